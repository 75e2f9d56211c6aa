/-! PURE: a tick, whole; what it keeps -/
theorem tail_ok {N : Nat} {V0 V : St} {p0 : Int32} {m v n e : Nat} (hm : V.2.2.2.2.2.2.2.2.2.1 = nI m) (hv : V.2.2.2.2.2.2.2.2.2.2.2.1 = nI v) (hn : V.2.2.2.2.2.2.2.1 = nI n) (he : V.2.2.2.2.2.2.2.2.2.2.2.2.2.2.2.1 = nI e) (bm : m ≤ 2) (bv : v ≤ 90) (bn : n ≤ 20) :
    tail4 N V0 p0 V = some (V.1, V.2.1, V.2.2.1, V.2.2.2.1, V.2.2.2.2.1, V.2.2.2.2.2.1, V.2.2.2.2.2.2.1, V.2.2.2.2.2.2.2.1, V.2.2.2.2.2.2.2.2.1, nI (if m = 1 ∧ v = 0 then 2 else m), V.2.2.2.2.2.2.2.2.2.2.1 + 1, V.2.2.2.2.2.2.2.2.2.2.2.1, V.2.2.2.2.2.2.2.2.2.2.2.2.1, V.2.2.2.2.2.2.2.2.2.2.2.2.2.1, V.2.2.2.2.2.2.2.2.2.2.2.2.2.2.1, nI (if n = 0 then e + 1 else 0), V.2.2.2.2.2.2.2.2.2.2.2.2.2.2.2.2.1, V.2.2.2.2.2.2.2.2.2.2.2.2.2.2.2.2.2) := by
  have k59 : ∀ (W : St), W.2.2.2.2.2.2.2.1 = nI n → W.2.2.2.2.2.2.2.2.2.2.2.2.2.2.2.1 = nI e → b_X4_passTick_59 N V0 p0 W = some (W.1, W.2.1, W.2.2.1, W.2.2.2.1, W.2.2.2.2.1, W.2.2.2.2.2.1, W.2.2.2.2.2.2.1, W.2.2.2.2.2.2.2.1, W.2.2.2.2.2.2.2.2.1, W.2.2.2.2.2.2.2.2.2.1, W.2.2.2.2.2.2.2.2.2.2.1 + 1, W.2.2.2.2.2.2.2.2.2.2.2.1, W.2.2.2.2.2.2.2.2.2.2.2.2.1, W.2.2.2.2.2.2.2.2.2.2.2.2.2.1, W.2.2.2.2.2.2.2.2.2.2.2.2.2.2.1, nI (if n = 0 then e + 1 else 0), W.2.2.2.2.2.2.2.2.2.2.2.2.2.2.2.2.1, W.2.2.2.2.2.2.2.2.2.2.2.2.2.2.2.2.2) := by
    intro W w1 w2
    unfold b_X4_passTick_59 b_X4_passTick_77
    by_cases c : n = 0
    · refine (if_pos (show W.2.2.2.2.2.2.2.1 = 0 by rw [w1, c]; rfl)).trans ?_
      rw [if_pos c, w2, nI_1]
    · refine (if_neg (show ¬ W.2.2.2.2.2.2.2.1 = 0 by rw [w1]; exact nI_ne0 (by omega) (by omega))).trans ?_
      rw [if_neg c]; rfl
  unfold tail4
  by_cases c : m = 1
  · refine (if_pos (show V.2.2.2.2.2.2.2.2.2.1 = (1 : Int32) by rw [hm, c]; rfl)).trans ?_
    by_cases d : v = 0
    · refine (if_pos (show V.2.2.2.2.2.2.2.2.2.2.2.1 = 0 by rw [hv, d]; rfl)).trans ?_
      refine (k59 (V.1, V.2.1, V.2.2.1, V.2.2.2.1, V.2.2.2.2.1, V.2.2.2.2.2.1, V.2.2.2.2.2.2.1, V.2.2.2.2.2.2.2.1, V.2.2.2.2.2.2.2.2.1, (2 : Int32), V.2.2.2.2.2.2.2.2.2.2.1, V.2.2.2.2.2.2.2.2.2.2.2.1, V.2.2.2.2.2.2.2.2.2.2.2.2.1, V.2.2.2.2.2.2.2.2.2.2.2.2.2.1, V.2.2.2.2.2.2.2.2.2.2.2.2.2.2.1, V.2.2.2.2.2.2.2.2.2.2.2.2.2.2.2.1, V.2.2.2.2.2.2.2.2.2.2.2.2.2.2.2.2.1, V.2.2.2.2.2.2.2.2.2.2.2.2.2.2.2.2.2) hn he).trans ?_
      rw [if_pos (show m = 1 ∧ v = 0 from ⟨c, d⟩)]; rfl
    · refine (if_neg (show ¬ V.2.2.2.2.2.2.2.2.2.2.2.1 = 0 by rw [hv]; exact nI_ne0 (by omega) (by omega))).trans ?_
      refine (k59 V hn he).trans ?_
      rw [if_neg (show ¬ (m = 1 ∧ v = 0) from fun z => d z.2), ← hm]
  · refine (if_neg (show ¬ V.2.2.2.2.2.2.2.2.2.1 = (1 : Int32) by rw [hm]; exact fun z => c ((nI_eq (b := 1) (by omega) (by decide)).mp z))).trans ?_
    refine (k59 V hn he).trans ?_
    rw [if_neg (show ¬ (m = 1 ∧ v = 0) from fun z => c z.1), ← hm]
theorem want_le {σ : Nat → Nat} {d : Fn} {ps : List Pp} {m e : Nat} (h0 : σ 0 ≤ 90) (h1 : σ 1 ≤ 90) : wantA σ d ps m e ≤ 90 := by
  have := Nat.sub_le (σ 0) (tot ps / σ 5)
  unfold wantA
  repeat' split
  all_goals omega
theorem spd_le {v w c : Nat} (h0 : v ≤ 90) (h1 : w ≤ 90) : spd v w c ≤ 90 := by
  unfold spd
  repeat' split
  all_goals omega
theorem tick16 {N T : Nat} {V V0 : St} {A : AS} {p0 : Int32} (hN : 5000 ≤ N) (h : Rel V A) (hA : WA T A) (hT : T < 2 ^ 29) : ∃ V', b_X4_passTick_16 N V0 p0 V = some V' ∧ Rel V' (tickA A false) ∧ V'.2.2.2.2.2.2.1 = V.2.2.2.2.2.2.1 ∧ V'.2.2.2.2.2.2.2.2.2.2.2.2.2.2.1 = V.2.2.2.2.2.2.2.2.2.2.2.2.2.2.1 := by
  obtain ⟨r1, r2, r3, r4, r5, r6, r7, r8, r9, r10, r11, g, hg, r12⟩ := h
  obtain ⟨a1, a2, a3, a4, a5, a6, a7, a8, a9, a10, a11⟩ := hA
  have hw : tot A.2.2.1 ≤ 4000 := Nat.le_trans (tot_le _ (fun p hp => (a3 p hp).2.2.1)) (by omega)
  have hm : mA A false = A.2.2.2.2.1 := if_neg (fun z => Bool.noConfusion z.2)
  have hv : vA A false = spd A.2.2.2.2.2.2.1 (wantA A.1 (dcl A.2.1 A.2.2.2.1 4) A.2.2.1 A.2.2.2.2.1 A.2.2.2.2.2.2.2.1) (rmpA A.1 A.2.2.1) := by unfold vA; rw [hm]
  have hd : ∀ j, j < 4 → dcl V.2.2.2.2.1 A.2.2.2.1 4 j = dcl A.2.1 A.2.2.2.1 4 j := fun j hj => by
    unfold dcl; rw [if_pos hj, if_pos hj, r2 j hj]
  have hwl := want_le (σ := A.1) (d := dcl A.2.1 A.2.2.2.1 4) (ps := A.2.2.1) (m := A.2.2.2.2.1) (e := A.2.2.2.2.2.2.2.1) a1.1 a1.2.1
  have hsl : vA A false ≤ 90 := by rw [hv]; exact spd_le a6 hwl
  rw [p16, q_dis hN V a4 r5, Option.bind_some]
  obtain ⟨V2, hV2⟩ : ∃ V2 : St, V2 = (V.1, V.2.1, V.2.2.1, V.2.2.2.1, dcl V.2.2.2.2.1 A.2.2.2.1 4, V.2.2.2.2.2) := ⟨_, rfl⟩
  rw [← hV2]
  have f1 : ∀ j, j < 7 → V2.1 j = nI (A.1 j) := by rw [hV2]; exact r1
  have f2 : ∀ j, j < 4 → V2.2.2.2.2.1 j = dcl A.2.1 A.2.2.2.1 4 j := by rw [hV2]; exact hd
  have f3 : V2.2.2.2.2.2.2.2.1 = nI A.2.2.1.length := by rw [hV2]; exact r3
  have f4 : ∀ i p, A.2.2.1[i]? = some p → Row V2 i p := by rw [hV2]; exact r4
  have f5 : V2.2.2.2.2.2.2.2.2.1 = nI A.2.2.2.1 := by rw [hV2]; exact r5
  have f6 : V2.2.2.2.2.2.2.2.2.2.1 = nI A.2.2.2.2.1 := by rw [hV2]; exact r6
  have f7 : V2.2.2.2.2.2.2.2.2.2.2.1 = nI A.2.2.2.2.2.1 := by rw [hV2]; exact r7
  have f8 : V2.2.2.2.2.2.2.2.2.2.2.2.1 = nI A.2.2.2.2.2.2.1 := by rw [hV2]; exact r8
  have f9 : V2.2.2.2.2.2.2.2.2.2.2.2.2.2.2.2.1 = nI A.2.2.2.2.2.2.2.1 := by rw [hV2]; exact r9
  have f10 : V2.2.2.2.2.2.2.2.2.2.2.2.2.1 = A.2.2.2.2.2.2.2.2.1 := by rw [hV2]; exact r10
  have f11 : V2.2.2.2.2.2.2.2.2.2.2.2.2.2.2.2.2.1 = A.2.2.2.2.2.2.2.2.2 := by rw [hV2]; exact r11
  have f12 : V2.2.2.2.2.2.2.2.2.2.2.2.2.2.2.2.2.2 = nI g := by rw [hV2]; exact r12
  have f13 : V2.2.2.2.2.2.2.1 = V.2.2.2.2.2.2.1 := by rw [hV2]
  have f14 : V2.2.2.2.2.2.2.2.2.2.2.2.2.2.2.1 = V.2.2.2.2.2.2.2.2.2.2.2.2.2.2.1 := by rw [hV2]
  rw [total_ok hN f3 a2 (fun i p hp => (f4 i p hp).2.1), Option.bind_some, wanted_ok hN f1 f2 f3 f6 f9 a2 hw ⟨a1.1, a1.2.1, a1.2.2.2.2.1, a1.2.2.2.2.2.2.1, a1.2.2.2.2.2.2.2.1⟩ a5 (by omega), Option.bind_some]
  obtain ⟨g', hg', e3⟩ := change_ok (w := wantA A.1 (dcl A.2.1 A.2.2.2.1 4) A.2.2.1 A.2.2.2.2.1 A.2.2.2.2.2.2.2.1) f1 f8 f12 hg a6 hwl hw ⟨a1.2.2.1, a1.2.2.2.1, a1.2.2.2.2.2.2.2.2⟩
  rw [e3, Option.bind_some, ← hv]
  obtain ⟨V3, hV3⟩ : ∃ V3 : St, V3 = (V2.1, V2.2.1, V2.2.2.1, V2.2.2.2.1, V2.2.2.2.2.1, V2.2.2.2.2.2.1, V2.2.2.2.2.2.2.1, V2.2.2.2.2.2.2.2.1, V2.2.2.2.2.2.2.2.2.1, V2.2.2.2.2.2.2.2.2.2.1, V2.2.2.2.2.2.2.2.2.2.2.1, nI (vA A false), V2.2.2.2.2.2.2.2.2.2.2.2.2.1, V2.2.2.2.2.2.2.2.2.2.2.2.2.2.1, V2.2.2.2.2.2.2.2.2.2.2.2.2.2.2.1, V2.2.2.2.2.2.2.2.2.2.2.2.2.2.2.2.1, V2.2.2.2.2.2.2.2.2.2.2.2.2.2.2.2.2.1, nI g') := ⟨_, rfl⟩
  rw [← hV3]
  have k3 : V3.2.2.2.2.2.2.2.1 = nI A.2.2.1.length := by rw [hV3]; exact f3
  have k4 : ∀ i p, A.2.2.1[i]? = some p → Row V3 i p := by rw [hV3]; exact f4
  have k8 : V3.2.2.2.2.2.2.2.2.2.2.2.1 = nI (vA A false) := by rw [hV3]
  obtain ⟨pl, we, ca, ow, e4, hrow⟩ := carry_ok hN k3 a2 k4 k8 hsl (fun p hp => (a3 p hp).1)
  rw [e4, Option.bind_some]
  have hpl := fm_len (vA A false) A.2.2.1
  obtain ⟨V4, hV4⟩ : ∃ V4 : St, V4 = (V3.1, pl, we, ca, V3.2.2.2.2.1, V3.2.2.2.2.2.1, V3.2.2.2.2.2.2.1, nI (pA A false).length, V3.2.2.2.2.2.2.2.2.1, V3.2.2.2.2.2.2.2.2.2.1, V3.2.2.2.2.2.2.2.2.2.2.1, V3.2.2.2.2.2.2.2.2.2.2.2.1, V3.2.2.2.2.2.2.2.2.2.2.2.2.1 + nI (A.2.2.1.length - (pA A false).length), ow, V3.2.2.2.2.2.2.2.2.2.2.2.2.2.2.1, V3.2.2.2.2.2.2.2.2.2.2.2.2.2.2.2.1, V3.2.2.2.2.2.2.2.2.2.2.2.2.2.2.2.2.1 + nI (vA A false), V3.2.2.2.2.2.2.2.2.2.2.2.2.2.2.2.2.2) := ⟨_, rfl⟩
  have e5 := tail_ok (N := N) (V0 := V0) (p0 := p0) (V := V4) (m := A.2.2.2.2.1) (v := vA A false) (n := (pA A false).length) (e := A.2.2.2.2.2.2.2.1) (by rw [hV4, hV3]; exact f6) (by rw [hV4, hV3]) (by rw [hV4]) (by rw [hV4, hV3]; exact f9) a5 hsl (Nat.le_trans hpl a2)
  rw [hV4] at e5
  refine ⟨_, e5, ?_, by rw [hV3]; exact f13, by rw [hV3]; exact f14⟩
  subst hV3
  refine ⟨f1, f2, rfl, hrow, f5, ?_, ?_, rfl, rfl, ?_, ?_, g', hg', rfl⟩
  · show nI _ = nI (if mA A false = 1 ∧ vA A false = 0 then 2 else mA A false)
    rw [hm]
  · show V2.2.2.2.2.2.2.2.2.2.2.1 + 1 = nI (A.2.2.2.2.2.1 + 1)
    rw [f7, nI_1]
  · show V2.2.2.2.2.2.2.2.2.2.2.2.2.1 + _ = A.2.2.2.2.2.2.2.2.1 + _
    rw [f10]
  · show V2.2.2.2.2.2.2.2.2.2.2.2.2.2.2.2.2.1 + _ = A.2.2.2.2.2.2.2.2.2 + _
    rw [f11]
def stopA (A : AS) : AS := (A.1, A.2.1, A.2.2.1, A.2.2.2.1, 1, A.2.2.2.2.2.1, A.2.2.2.2.2.2.1, A.2.2.2.2.2.2.2.1, A.2.2.2.2.2.2.2.2.1, A.2.2.2.2.2.2.2.2.2)
theorem begin_ok {N T : Nat} {V : St} {A : AS} {p0 : Int32} (hN : 5000 ≤ N) (h : Rel V A) (hA : WA T A) : ∃ V', f_X4_beginStop N V p0 = some V' ∧ Rel V' (stopA A) ∧ V'.2.2.2.2.2.2.1 = V.2.2.2.2.2.2.1 ∧ V'.2.2.2.2.2.2.2.2.2.2.2.2.2.2.1 = V.2.2.2.2.2.2.2.2.2.2.2.2.2.2.1 + 1 ∧ V'.2.2.2.2.2.1 0 = V.2.2.2.2.2.2.2.2.2.2.1 ∧ V'.2.2.2.2.2.1 1 = V.2.2.2.2.2.2.2.2.2.2.2.1 ∧ V'.2.2.2.2.2.1 2 = nI (tot A.2.2.1) ∧ V'.2.2.2.2.2.1 4 = p0 ∧ V'.2.2.2.2.2.2.2.2.2.2.2.1 = V.2.2.2.2.2.2.2.2.2.2.2.1 := by
  obtain ⟨r1, r2, r3, r4, r5, r6, r7, r8, r9, r10, r11, r12⟩ := h
  unfold f_X4_beginStop
  have tw : ∀ W : St, W.2.2.2.2.2.2.2.1 = V.2.2.2.2.2.2.2.1 → W.2.2.1 = V.2.2.1 → f_X4_totalWeight N W = some (nI (tot A.2.2.1)) := fun W h1 h2 => total_ok hN (h1.trans r3) hA.2.1 (fun i p hp => by rw [h2]; exact (r4 i p hp).2.1)
  rw [tw (V.1, V.2.1, V.2.2.1, V.2.2.2.1, V.2.2.2.2.1, upd (upd (va_cpy V.2.2.2.2.2.1 V.2.2.2.2.2.1 (Int32.toNatClampNeg (0 : Int32)) (Int32.toNatClampNeg (5 : Int32)) (Int32.toNatClampNeg (25 : Int32))) (Int32.toNatClampNeg (0 : Int32)) V.2.2.2.2.2.2.2.2.2.2.1) (Int32.toNatClampNeg (1 : Int32)) V.2.2.2.2.2.2.2.2.2.2.2.1, V.2.2.2.2.2.2.1, V.2.2.2.2.2.2.2.1, V.2.2.2.2.2.2.2.2.1, (1 : Int32), V.2.2.2.2.2.2.2.2.2.2.1, V.2.2.2.2.2.2.2.2.2.2.2.1, V.2.2.2.2.2.2.2.2.2.2.2.2.1, V.2.2.2.2.2.2.2.2.2.2.2.2.2.1, (V.2.2.2.2.2.2.2.2.2.2.2.2.2.2.1 + (1 : Int32)), V.2.2.2.2.2.2.2.2.2.2.2.2.2.2.2.1, V.2.2.2.2.2.2.2.2.2.2.2.2.2.2.2.2.1, V.2.2.2.2.2.2.2.2.2.2.2.2.2.2.2.2.2) rfl rfl, Option.bind_some]
  refine ⟨_, rfl, ⟨r1, r2, r3, r4, r5, rfl, r7, r8, r9, r10, r11, r12⟩, rfl, rfl, ?_, ?_, ?_, ?_, rfl⟩
  · dsimp only
    rw [c_0, c_1, c_2, c_3, c_4, upd_n (by decide), upd_n (by decide), upd_n (by decide), upd_n (by decide), upd_e rfl]
  · dsimp only
    rw [c_0, c_1, c_2, c_3, c_4, upd_n (by decide), upd_n (by decide), upd_n (by decide), upd_e rfl]
  · dsimp only
    rw [c_0, c_1, c_2, c_3, c_4, upd_n (by decide), upd_n (by decide), upd_e rfl]
  · dsimp only
    rw [c_0, c_1, c_2, c_3, c_4, upd_e rfl]
theorem WA_stop {T : Nat} {A : AS} (h : WA T A) : WA T (stopA A) := by
  obtain ⟨a1, a2, a3, a4, a5, a6, a7, a8⟩ := h
  exact ⟨a1, a2, a3, a4, (by show 1 ≤ 2; decide), a6, fun (z : (1 : Nat) = 2) => absurd z (by decide), a8⟩
theorem tick_stop {A : AS} (h : A.2.2.2.2.1 = 0) : tickA A true = tickA (stopA A) false := by
  have e1 : mA A true = 1 := if_pos ⟨h, rfl⟩
  have e2 : mA (stopA A) false = 1 := if_neg (fun z => Bool.noConfusion z.2)
  have e3 : vA A true = vA (stopA A) false := by unfold vA; rw [e1, e2]; rfl
  have e4 : pA A true = pA (stopA A) false := by unfold pA; rw [e3]; rfl
  unfold tickA
  rw [e1, e2, e3, e4]; rfl
theorem tick_run {A : AS} {b : Bool} (h : A.2.2.2.2.1 ≠ 0) : tickA A b = tickA A false := by
  have e1 : ∀ b, mA A b = A.2.2.2.2.1 := fun b => if_neg (fun z => h z.1)
  have e3 : vA A b = vA A false := by unfold vA; rw [e1, e1]
  have e4 : pA A b = pA A false := by unfold pA; rw [e3]
  unfold tickA
  rw [e1, e1, e3, e4]
theorem tick_ok {N T : Nat} {V : St} {A : AS} {hv : Int32} {b : Bool} (hN : 5000 ≤ N) (h : Rel V A) (hA : WA T A) (hT : T < 2 ^ 29) (hb : hv = if b then 1 else 0) : ∃ V', f_X4_passTick N V hv = some V' ∧ Rel V' (tickA A b) ∧ V'.2.2.2.2.2.2.1 = V.2.2.2.2.2.2.1 ∧ V'.2.2.2.2.2.2.2.2.2.2.2.2.2.2.1 = V.2.2.2.2.2.2.2.2.2.2.2.2.2.2.1 + (if A.2.2.2.2.1 = 0 ∧ b = true then 1 else 0) := by
  have r6 := h.2.2.2.2.2.1
  have a5 := hA.2.2.2.2.1
  unfold f_X4_passTick
  by_cases c : A.2.2.2.2.1 = 0
  · rw [if_pos (show V.2.2.2.2.2.2.2.2.2.1 = 0 by rw [r6, c]; rfl)]
    cases b with
    | false =>
      rw [if_pos (show hv = 0 from hb), if_neg (fun z => Bool.noConfusion z.2), Int32.add_zero]
      exact tick16 hN h hA hT
    | true =>
      rw [if_neg (show ¬ hv = 0 by rw [hb]; decide), if_pos ⟨c, rfl⟩, tick_stop c]
      obtain ⟨V1, k1, k2, k3, k4, -⟩ := begin_ok (p0 := 0) hN h hA
      rw [k1, Option.bind_some, ← k3, ← k4]
      exact tick16 hN k2 (WA_stop hA) hT
  · rw [if_neg (show ¬ V.2.2.2.2.2.2.2.2.2.1 = 0 by rw [r6]; exact nI_ne0 (by omega) (by omega)), if_neg (fun z => c z.1), Int32.add_zero, tick_run c]
    exact tick16 hN h hA hT
/-! what a tick keeps -/
theorem fm_pw (v : Nat) : ∀ l : List Pp, l.Pairwise (fun a b => b.1 ≤ a.1 ∧ a.2.2 ≤ b.2.2) → (l.filterMap (advP v)).Pairwise (fun a b => b.1 ≤ a.1 ∧ a.2.2 ≤ b.2.2)
  | [], _ => List.Pairwise.nil
  | p :: l, h => by
    obtain ⟨h1, h2⟩ := List.pairwise_cons.mp h
    have ih := fm_pw v l h2
    rw [List.filterMap_cons]
    unfold advP
    by_cases c : p.1 + v < 1000
    · rw [if_pos c]
      dsimp only
      refine List.pairwise_cons.mpr ⟨fun q hq => ?_, ih⟩
      obtain ⟨r, hr, er⟩ := List.mem_filterMap.mp hq
      have h3 := h1 r hr
      by_cases d : r.1 + v < 1000
      · rw [if_pos d] at er
        obtain rfl := Option.some.inj er
        exact ⟨by show r.1 + v ≤ p.1 + v; omega, h3.2⟩
      · rw [if_neg d] at er; cases er
    · rw [if_neg c]
      exact ih
theorem fm_mem {v : Nat} {l : List Pp} {q : Pp} (h : q ∈ l.filterMap (advP v)) : ∃ p, p ∈ l ∧ q = (p.1 + v, p.2) ∧ p.1 + v < 1000 := by
  obtain ⟨r, hr, er⟩ := List.mem_filterMap.mp h
  unfold advP at er
  by_cases d : r.1 + v < 1000
  · rw [if_pos d] at er
    exact ⟨r, hr, (Option.some.inj er).symm, d⟩
  · rw [if_neg d] at er; cases er
theorem vA_le {T : Nat} {A : AS} {b : Bool} (h : WA T A) : vA A b ≤ 90 := spd_le h.2.2.2.2.2.1 (want_le h.1.1 h.1.2.1)
theorem rmp_pos {T : Nat} {A : AS} (h : WA T A) : 1 ≤ rmpA A.1 A.2.2.1 := by
  have := h.1.2.2.1
  unfold rmpA; split <;> omega
theorem vA_stop {T : Nat} {A : AS} {b : Bool} (h : WA T A) (hm : mA A b ≠ 0) : vA A b ≤ A.2.2.2.2.2.2.1 ∧ (0 < A.2.2.2.2.2.2.1 → vA A b < A.2.2.2.2.2.2.1) ∧ (A.2.2.2.2.2.2.1 = 0 → vA A b = 0) := by
  have hr := rmp_pos h
  unfold vA
  have e : wantA A.1 (dcl A.2.1 A.2.2.2.1 4) A.2.2.1 (mA A b) A.2.2.2.2.2.2.2.1 = 0 := if_pos hm
  rw [e]
  unfold spd
  repeat' split
  all_goals omega
theorem WA_tick {T : Nat} {A : AS} {b : Bool} (h : WA T A) : WA (T + 1) (tickA A b) := by
  obtain ⟨a1, a2, a3, a4, a5, a6, a7, a8, a9, a10, a11⟩ := h
  have hv := vA_le (b := b) ⟨a1, a2, a3, a4, a5, a6, a7, a8, a9, a10, a11⟩
  have hl := fm_len (vA A b) A.2.2.1
  have hm : mA A b ≤ 2 := by unfold mA; split <;> omega
  refine ⟨a1, Nat.le_trans hl a2, fun q hq => ?_, a4, ?_, hv, fun z => ?_, ?_, Nat.succ_le_succ a9, fm_pw _ _ a10, fun z q hq => ?_⟩
  · obtain ⟨p, hp, rfl, hlt⟩ := fm_mem hq
    obtain ⟨b1, b2, b3, b4⟩ := a3 p hp
    exact ⟨hlt, b2, b3, Nat.le_succ_of_le b4⟩
  · show (if mA A b = 1 ∧ vA A b = 0 then 2 else mA A b) ≤ 2
    split <;> omega
  · have z' : (if mA A b = 1 ∧ vA A b = 0 then 2 else mA A b) = 2 := z
    show vA A b = 0
    by_cases c : mA A b = 1 ∧ vA A b = 0
    · exact c.2
    · rw [if_neg c] at z'
      have hA : A.2.2.2.2.1 = 2 := by
        unfold mA at z'
        by_cases d : A.2.2.2.2.1 = 0 ∧ b = true
        · rw [if_pos d] at z'; omega
        · rw [if_neg d] at z'; exact z'
      exact (vA_stop ⟨a1, a2, a3, a4, a5, a6, a7, a8, a9, a10, a11⟩ (by omega)).2.2 (a7 hA)
  · show (if (pA A b).length = 0 then A.2.2.2.2.2.2.2.1 + 1 else 0) ≤ A.2.2.2.2.2.1 + 1
    split <;> omega
  · have z' : (if (pA A b).length = 0 then A.2.2.2.2.2.2.2.1 + 1 else 0) ≠ 0 := z
    by_cases c : (pA A b).length = 0
    · have : pA A b = [] := List.eq_nil_of_length_eq_zero c
      have hq' : q ∈ pA A b := hq
      rw [this] at hq'
      exact absurd hq' List.not_mem_nil
    · rw [if_neg c] at z'
      exact absurd rfl z'
/-! ticks in a row -/
def itA : Nat → Bool → AS → AS
  | 0, _, A => A
  | n + 1, b, A => itA n b (tickA A b)
theorem itA_s (b : Bool) : ∀ (n : Nat) (A : AS), itA (n + 1) b A = tickA (itA n b A) b
  | 0, _ => rfl
  | n + 1, A => itA_s b n (tickA A b)
theorem WA_it {b : Bool} : ∀ (n : Nat) {T : Nat} {A : AS}, WA T A → WA (T + n) (itA n b A)
  | 0, _, _, h => h
  | n + 1, T, A, h => by
    have := WA_it (b := b) n (WA_tick (b := b) h)
    rwa [show T + 1 + n = T + (n + 1) from by omega] at this
theorem it_add (b : Bool) : ∀ (n m : Nat) (A : AS), itA (n + m) b A = itA m b (itA n b A)
  | 0, m, A => by rw [Nat.zero_add]; rfl
  | n + 1, m, A => by
    rw [show n + 1 + m = (n + m) + 1 from by omega]
    exact it_add b n m (tickA A b)
theorem it_tk (b : Bool) : ∀ (n : Nat) (A : AS), (itA n b A).2.2.2.2.2.1 = A.2.2.2.2.2.1 + n
  | 0, A => rfl
  | n + 1, A => by
    have : (itA (n + 1) b A).2.2.2.2.2.1 = (tickA A b).2.2.2.2.2.1 + n := it_tk b n (tickA A b)
    rw [this]
    show A.2.2.2.2.2.1 + 1 + n = _
    omega
