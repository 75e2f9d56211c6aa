theorem arrK {s : State} {args : Array Value} {ty : FieldType} (h : (Cond.arrayClass ty).before args s = true) : ∃ cA : ClassId, ArrOfT s cA ty ∧ s.vm.findClass ("[" ++ ty.toString) = some cA := by
  obtain ⟨c, k, comp, h1, h2, h3⟩ := Cond.arrayClass_spec h
  exact ⟨c, fun n z => ⟨fun k h => (by cases h), k, h2, comp, h3⟩, h1⟩
theorem arrQ {s : State} {args : Array Value} {C : String} (h : (Cond.arrayOver (.object C)).before args s = true) : ∃ cA : ClassId, ArrOfT s cA (.object C) ∧ va_RA s cA (.object C) := by
  obtain ⟨comp, c, k, h1, h2, h3, h4, h5⟩ := Cond.arrayOver_spec h
  exact ⟨c, fun n z => ⟨fun k h => (by cases h), k, h3, comp, h4⟩, k, comp, h3, h4, h1, h5⟩
theorem tabX {args : Array Value} {s : State} {tm : Term} {N : Nat} {f : Nat → Int32} {A : Nat → Prop} (hN : N < 2 ^ 31) (harr : (Cond.arrayOf tm .int).before args s = true) (hlen : (Term.length tm).eval args s none [] s = some (.int (Int32.ofNat N))) (hel : ∀ j : Nat, j < N → (Term.elem tm (.int (Int32.ofNat j))).eval args s none [] s = some (.int (f j))) (hA : ∀ a : Nat, a < s.heap.size → ¬ A a) : ∃ t : Nat, tm.eval args s none [] s = some (.ref t) ∧ va_X t N f s s.heap ∧ ¬ A t := by
  obtain ⟨t, ht, cell, h1, h2, h3, h4, h5, h6, h7⟩ := va_Tof (f := fun j => .int (f j)) (A := A) hN harr hlen hel hA
  obtain ⟨t2, cell2, ht2, hat, hv⟩ := Term.length_spec hlen
  cases ht.symm.trans ht2
  obtain ⟨hcell, -, -, -⟩ := State.arrayAt?_spec hat
  cases h1.symm.trans hcell
  have hsz : cell.slots.size < 2 ^ 31 := by
    simp only [Term.eval, ht2, hat, Option.bind_eq_bind, Option.bind_some] at hlen
    by_cases hlt : cell.slots.size < 2147483648
    · exact hlt
    · simp [hlt] at hlen
  have hz : cell.slots.size = N := ((nI_eq hsz hN).mp h5)
  exact ⟨t, ht, ⟨cell, h1, h2, h3, hz, h6⟩, h7⟩
set_option maxHeartbeats 8000000 in
set_option maxRecDepth 100000 in
/-- THE LAW, from its entry -/
theorem whole_start {p : Program} {e : Env} {s : State} {m : MethodId} {below : List Frame} {meth : Method} {c : Code} (l : Launch) (hflags : l.flags = flags0) {b L : Nat} {xs : Nat → Int32} (hL : L ≤ 260) (C0 : lw_At p s m meth c b L xs) : W p l e room_1 s m #[Value.ref b] below meth c s.heap [] 0 0 (lw_Z below #[Value.ref b] s) (entryFrame m ([Value.ref b] : List Value).toArray 11) := by
  obtain ⟨hx, hcd, hr, hml, hown, hts, hX, hbl, hlocks, hgv⟩ := C0
  have hA : ∀ q : Nat, q < s.heap.size → ¬ (fun q : Nat => s.heap.size ≤ q) q := fun q h => Nat.not_le.mpr h
  have hs := flat_of_before _ hgv
  obtain ⟨c0, i0, k0⟩ := u_known (C := RX0) (T := TX0) (N := 3) (n := 3) hts (fun w h => tb_of (mi_X0 w h)) (hts _ (tb_of mt_279))
  obtain ⟨c1, i1, k1⟩ := u_known (C := RX1) (T := TX1) (N := 2) (n := 2) hts (fun w h => tb_of (mi_X1 w h)) (hts _ (tb_of mt_24))
  obtain ⟨c2, i2, k2⟩ := u_known (C := RX2) (T := TX2) (N := 4) (n := 4) hts (fun w h => tb_of (mi_X2 w h)) (hts _ (tb_of mt_40))
  obtain ⟨c3, i3, k3⟩ := u_known (C := RX3) (T := TX3) (N := 6) (n := 6) hts (fun w h => tb_of (mi_X3 w h)) (hts _ (tb_of mt_120))
  obtain ⟨c4, i4, k4⟩ := u_known (C := RX4) (T := TX4) (N := 18) (n := 18) hts (fun w h => tb_of (mi_X4 w h)) (hts _ (tb_of mt_200))
  obtain ⟨c5, i5, k5⟩ := u_known (C := RX5) (T := TX5) (N := 7) (n := 7) hts (fun w h => tb_of (mi_X5 w h)) (hts _ (tb_of mt_16))
  obtain ⟨dC, dI, hKc⟩ : ∃ (dC : Nat → ClassId) (dI : Nat → Nat → Nat), ∀ (k : Nat) (q : vw_C), vwCl[k]? = some q → u_Kn s q.1 q.2.1 q.2.2 (dC k) (dI k) := by
    refine ⟨fun k => [c0, c1, c2, c3, c4, c5].getD k c0, fun k => [i0, i1, i2, i3, i4, i5].getD k i0, ?_⟩
    intro k q hq
    match k, hq with
    | 0, hq => cases hq; exact k0
    | 1, hq => cases hq; exact k1
    | 2, hq => cases hq; exact k2
    | 3, hq => cases hq; exact k3
    | 4, hq => cases hq; exact k4
    | 5, hq => cases hq; exact k5
    | k + 6, hq => simp [vwCl] at hq
  obtain ⟨cI, hI1, hI2⟩ := arrK (hts _ (tb_of mt_58))
  obtain ⟨cC, hC1, hC2⟩ := arrK (hts _ (tb_of mt_38))
  obtain ⟨cZ, hZ1, hZ2⟩ := arrK (hts _ (tb_of mt_146))
  obtain ⟨cS, hS1, hS2⟩ := arrQ (hts _ ml_60)
  obtain ⟨tL, htL, htLT⟩ := va_Tof (ty := .int) (N := 7) (tm := .static "SoftStairs" "LEAST" "[I") (f := fun j => .int (lstL.getD j 0)) (A := fun q : Nat => s.heap.size ≤ q) (by decide) (hs (.arrayOf (.static "SoftStairs" "LEAST" "[I") .int) (by decide +kernel)) (va_eqt (hs (.eq (.length (.static "SoftStairs" "LEAST" "[I")) (.int 7)) (by decide +kernel))) (fun j hj => by
    match j, hj with
    | 0, _ => exact va_eqt (hs (.eq (.elem (.static "SoftStairs" "LEAST" "[I") (.int 0)) (.int 10)) (by decide +kernel))
    | 1, _ => exact va_eqt (hs (.eq (.elem (.static "SoftStairs" "LEAST" "[I") (.int 1)) (.int 1)) (by decide +kernel))
    | 2, _ => exact va_eqt (hs (.eq (.elem (.static "SoftStairs" "LEAST" "[I") (.int 2)) (.int 1)) (by decide +kernel))
    | 3, _ => exact va_eqt (hs (.eq (.elem (.static "SoftStairs" "LEAST" "[I") (.int 3)) (.int 1)) (by decide +kernel))
    | 4, _ => exact va_eqt (hs (.eq (.elem (.static "SoftStairs" "LEAST" "[I") (.int 4)) (.int 1)) (by decide +kernel))
    | 5, _ => exact va_eqt (hs (.eq (.elem (.static "SoftStairs" "LEAST" "[I") (.int 5)) (.int 1)) (by decide +kernel))
    | 6, _ => exact va_eqt (hs (.eq (.elem (.static "SoftStairs" "LEAST" "[I") (.int 6)) (.int 1)) (by decide +kernel))) hA
  obtain ⟨tG, htG, htGT⟩ := va_Tof (ty := .int) (N := 7) (tm := .static "SoftStairs" "GREATEST" "[I") (f := fun j => .int (lstG.getD j 0)) (A := fun q : Nat => s.heap.size ≤ q) (by decide) (hs (.arrayOf (.static "SoftStairs" "GREATEST" "[I") .int) (by decide +kernel)) (va_eqt (hs (.eq (.length (.static "SoftStairs" "GREATEST" "[I")) (.int 7)) (by decide +kernel))) (fun j hj => by
    match j, hj with
    | 0, _ => exact va_eqt (hs (.eq (.elem (.static "SoftStairs" "GREATEST" "[I") (.int 0)) (.int 90)) (by decide +kernel))
    | 1, _ => exact va_eqt (hs (.eq (.elem (.static "SoftStairs" "GREATEST" "[I") (.int 1)) (.int 40)) (by decide +kernel))
    | 2, _ => exact va_eqt (hs (.eq (.elem (.static "SoftStairs" "GREATEST" "[I") (.int 2)) (.int 30)) (by decide +kernel))
    | 3, _ => exact va_eqt (hs (.eq (.elem (.static "SoftStairs" "GREATEST" "[I") (.int 3)) (.int 99)) (by decide +kernel))
    | 4, _ => exact va_eqt (hs (.eq (.elem (.static "SoftStairs" "GREATEST" "[I") (.int 4)) (.int 99)) (by decide +kernel))
    | 5, _ => exact va_eqt (hs (.eq (.elem (.static "SoftStairs" "GREATEST" "[I") (.int 5)) (.int 999)) (by decide +kernel))
    | 6, _ => exact va_eqt (hs (.eq (.elem (.static "SoftStairs" "GREATEST" "[I") (.int 6)) (.int 9999)) (by decide +kernel))) hA
  obtain ⟨tF, htF, htFX, htFA⟩ := tabX (N := 7) (tm := .static "SoftStairs" "AT_FIRST" "[I") (f := fun j => lstF.getD j 0) (A := fun q : Nat => s.heap.size ≤ q) (by decide) (hs (.arrayOf (.static "SoftStairs" "AT_FIRST" "[I") .int) (by decide +kernel)) (va_eqt (hs (.eq (.length (.static "SoftStairs" "AT_FIRST" "[I")) (.int 7)) (by decide +kernel))) (fun j hj => by
    match j, hj with
    | 0, _ => exact va_eqt (hs (.eq (.elem (.static "SoftStairs" "AT_FIRST" "[I") (.int 0)) (.int 50)) (by decide +kernel))
    | 1, _ => exact va_eqt (hs (.eq (.elem (.static "SoftStairs" "AT_FIRST" "[I") (.int 1)) (.int 10)) (by decide +kernel))
    | 2, _ => exact va_eqt (hs (.eq (.elem (.static "SoftStairs" "AT_FIRST" "[I") (.int 2)) (.int 6)) (by decide +kernel))
    | 3, _ => exact va_eqt (hs (.eq (.elem (.static "SoftStairs" "AT_FIRST" "[I") (.int 3)) (.int 20)) (by decide +kernel))
    | 4, _ => exact va_eqt (hs (.eq (.elem (.static "SoftStairs" "AT_FIRST" "[I") (.int 4)) (.int 5)) (by decide +kernel))
    | 5, _ => exact va_eqt (hs (.eq (.elem (.static "SoftStairs" "AT_FIRST" "[I") (.int 5)) (.int 100)) (by decide +kernel))
    | 6, _ => exact va_eqt (hs (.eq (.elem (.static "SoftStairs" "AT_FIRST" "[I") (.int 6)) (.int 800)) (by decide +kernel))) hA
  obtain ⟨adK, adV, hvS, hvE⟩ := vk_Sof (N := 1) (tm := fun _ => .string "SoftStairs" 33) (len := [7]) (byt := [lstB]) (A := fun q : Nat => s.heap.size ≤ q) (args := #[Value.ref b]) (s := s) (fun i hi => by cases (show i = 0 by omega); decide) (fun i hi => hs (.exactly (.string "SoftStairs" 33) "java/lang/String") (by decide +kernel)) (fun i hi => hs (.eq (.field (.string "SoftStairs" 33) "java/lang/String" "coder" "B") (.int 0)) (by decide +kernel))
    (fun i hi => hs (.arrayOf (.field (.string "SoftStairs" 33) "java/lang/String" "value" "[B") .byte) (by decide +kernel)) (fun i hi => by cases (show i = 0 by omega); exact hs (.eq (.length (.field (.string "SoftStairs" 33) "java/lang/String" "value" "[B")) (.int 7)) (by decide +kernel))
    (fun i hi j hj => by
      cases (show i = 0 by omega)
      match j, hj with
      | 0, _ => exact hs (.eq (.elem (.field (.string "SoftStairs" 33) "java/lang/String" "value" "[B") (.int 0)) (.int 65)) (by decide +kernel)
      | 1, _ => exact hs (.eq (.elem (.field (.string "SoftStairs" 33) "java/lang/String" "value" "[B") (.int 1)) (.int 124)) (by decide +kernel)
      | 2, _ => exact hs (.eq (.elem (.field (.string "SoftStairs" 33) "java/lang/String" "value" "[B") (.int 2)) (.int 66)) (by decide +kernel)
      | 3, _ => exact hs (.eq (.elem (.field (.string "SoftStairs" 33) "java/lang/String" "value" "[B") (.int 3)) (.int 124)) (by decide +kernel)
      | 4, _ => exact hs (.eq (.elem (.field (.string "SoftStairs" 33) "java/lang/String" "value" "[B") (.int 4)) (.int 67)) (by decide +kernel)
      | 5, _ => exact hs (.eq (.elem (.field (.string "SoftStairs" 33) "java/lang/String" "value" "[B") (.int 5)) (.int 124)) (by decide +kernel)
      | 6, _ => exact hs (.eq (.elem (.field (.string "SoftStairs" 33) "java/lang/String" "value" "[B") (.int 6)) (.int 68)) (by decide +kernel)) (fun i j hi hj h => absurd (show i = j by omega) h) hA
  obtain ⟨hv1, hv2, hv3, hv4⟩ := hvS.1 0 (by decide)
  obtain ⟨E, hE⟩ : ∃ E : Ev, E = ((dC, dI), (cI, cC, cZ, cS), (tL, tG, tF, adK 0, adV 0, b, L, xs)) := ⟨_, rfl⟩
  have hKE : KE E s := by
    subst hE
    refine ⟨hKc, fun k q h => ?_⟩
    match k, h with
    | 0, h => cases h; exact ⟨hI1, hI2⟩
    | 1, h => cases h; exact ⟨hC1, hC2⟩
    | 2, h => cases h; exact ⟨hZ1, hZ2⟩
    | 3, h => cases h; exact ⟨hS1, hS2⟩
    | k + 4, h => simp [tyE] at h
  have hSE : SE E (fun q : Nat => s.heap.size ≤ q) s s.heap := by
    subst hE
    exact ⟨⟨va_Zof (hts _ ml_324) (hts _ (tb_of mt_1)) htL hA, htLT⟩, ⟨va_Zof (hts _ ml_326) (hts _ (tb_of mt_1)) htG hA, htGT⟩, ⟨va_Zof (hts _ ml_206) (hts _ (tb_of mt_1)) htF hA, htFX, htFA⟩, ⟨hv1, hv2, hv3, hv4⟩, va_Zof (hts _ ml_71) (hts _ (tb_of mt_4)) (va_eqi (hs (.eq (.static "java/lang/String" "COMPACT_STRINGS" "Z") (.int 1)) (by decide +kernel))) hA, hX, Nat.not_le.mpr hbl⟩
  have hNE : NE E s := by
    subst hE
    exact ⟨va_Nw.of rfl (hts _ ml_25), va_Nw.of rfl (hts _ ml_41), va_Nw.of rfl (hts _ ml_121), va_Nw.of rfl (hts _ ml_205), va_AO.of (hts _ ml_60), vk_R.of (hts _ ml_61) (hvE 0 (by decide))⟩
  obtain ⟨X, hXe⟩ : ∃ X : Cx, X = (p, l, e, room_1, s, m, #[Value.ref b], below, meth, c, (fun q : Nat => s.heap.size ≤ q), lw_Z below #[Value.ref b] s) := ⟨_, rfl⟩
  have C : Ct E X cL_law RL room_1 11 := by
    subst hXe
    exact ⟨hx, hcd, hml, hown, fun w hw => hts w (tb_of hw), hKE, hSE, hNE, fun q h => h, rfl⟩
  have hLx : Lx X b := by
    subst hXe
    exact ⟨rfl, rfl, rfl, rfl, hr, hlocks⟩
  have hsL : E.2.2.2.2.2.2.2.2.1 = L := by rw [hE]
  have hsx : E.2.2.2.2.2.2.2.2.2 = xs := by rw [hE]
  have hsb : E.2.2.2.2.2.2.2.1 = b := by rw [hE]
  have main : G E X 11 [] 0 0 [(0, .ref b)] [] 0 := by
    obtain ⟨o0, hf0, hM0⟩ := first_ok (N := 5000) (Nat.le_refl _) ((fun _ => 0), (fun _ => 0), 0, 0)
    rw [← hsb]
    refine g_new (ci := 5) (Cl := RX5) (T := TX5) (N := 7) (fs := [.null, .null, .null, .null, .null, .null, .null]) C mi_X5 tyX5_ok mt_15 mt_16 mt_1 rfl (fun j hj => by rcases (show j = 0 ∨ j = 1 ∨ j = 2 ∨ j = 3 ∨ j = 4 ∨ j = 5 ∨ j = 6 by omega) with rfl | rfl | rfl | rfl | rfl | rfl | rfl <;> rfl) (Nat.le_of_ble_eq_true rfl) (Nat.le_of_ble_eq_true rfl) dL_law_0 (fun q1 => ?_)
    show G E X 11 [[(q1, .inr (5, [.null, .null, .null, .null, .null, .null, .null]))]] 1 7 [(0, .ref E.2.2.2.2.2.2.2.1)] [.ref q1] 3
    refine g_dup C dL_law_3 rfl ?_
    refine g_callI (As := []) (rest := [.ref q1]) C k_X5_init (fun l => c_X5_init (E := E) (q := q1) hf0 l) mt_17 [0] rfl (by decide) rfl (Nat.le_of_ble_eq_true rfl) ⟨Nat.le_of_ble_eq_true rfl, Nat.le_of_ble_eq_true rfl, Nat.le_of_ble_eq_true rfl, Nat.le_of_ble_eq_true rfl⟩ dL_law_4 ?_
    rintro _ _ ⟨rfl, a2, a3, a4, a5, a6, a7, a8, a9, a10, a11, a12, a13, a14, a15, a16, a17, a18, a19, e20, rfl⟩
    subst e20
    show G E X 11 [xo E a2 (a3 0) (a4 0) (a5 0) (a6 0) (a7 0) (a14 0) (a17 0), pd E a3 ((fun _ => 0), 0), rd E a4 o0.1, sc E a5 (stI (a18 0)), sc E a6 (stI (a18 0)), hb E a7 (a8 0) (a9 0) (a10 0) (a11 0) (a12 0) (a13 0) (0, 0), sc E a8 (stI (a18 0)), sc E a9 (stI (a18 0)), sc E a10 (stI (a18 0)), sc E a11 (stI (a18 0)), sc E a12 (stI (a18 0)), sc E a13 (stI (a18 0)), qa E a14 (a15 0) (a16 0), sc E a15 (stI (a18 0)), sc E a16 (stI (a18 0)), za E a17 (fun _ => 0), ru E (a18 0) a18 o0.2, [((a19 0), .inl (E.2.1.2.1, 7, .inl chr7b))]] 86 1649 [(0, .ref E.2.2.2.2.2.2.2.1)] [.ref (a2 0)] 7
    refine g_astore_n (lv2 := [(1, .ref (a2 0)), (0, .ref E.2.2.2.2.2.2.2.1)]) C dL_law_7 rfl (by decide) rfl ?_
    refine g_cut (Y2 := [xo E a2 (a3 0) (a4 0) (a5 0) (a6 0) (a7 0) (a14 0) (a17 0), pd E a3 ((fun _ => 0), 0), rd E a4 o0.1, sc E a5 (stI (a18 0)), sc E a6 (stI (a18 0)), hb E a7 (a8 0) (a9 0) (a10 0) (a11 0) (a12 0) (a13 0) (0, 0), sc E a8 (stI (a18 0)), sc E a9 (stI (a18 0)), sc E a10 (stI (a18 0)), sc E a11 (stI (a18 0)), sc E a12 (stI (a18 0)), sc E a13 (stI (a18 0)), (qa E a14 (a15 0) (a16 0) ++ (sc E a15 (stI (a18 0)) ++ (sc E a16 (stI (a18 0)) ++ (za E a17 (fun _ => 0) ++ (ru E (a18 0) a18 o0.2 ++ ([((a19 0), .inl (E.2.1.2.1, 7, .inl chr7b))]))))))]) (List.Perm.of_eq (by simp only [List.flatten_cons, List.flatten_nil, List.append_nil, List.append_assoc])) ?_
    refine g_sub (lv2 := [(0, .ref E.2.2.2.2.2.2.2.1), (1, .ref (a2 0))]) [1, 0] rfl ?_
    have hrho : ∀ r R, (fun r => if r = a18 0 then some o0.2 else none) r = some R → RIn E (qa E a14 (a15 0) (a16 0) ++ (sc E a15 (stI (a18 0)) ++ (sc E a16 (stI (a18 0)) ++ (za E a17 (fun _ => 0) ++ (ru E (a18 0) a18 o0.2 ++ ([((a19 0), .inl (E.2.1.2.1, 7, .inl chr7b))])))))) r R := by
      intro r R h2
      by_cases c : r = a18 0
      · subst c
        obtain rfl := Option.some.inj ((if_pos rfl).symm.trans h2)
        exact ⟨a18, fun c hc => List.mem_append_right _ (List.mem_append_right _ (List.mem_append_right _ (List.mem_append_right _ (List.mem_append_left _ hc))))⟩
      · exact absurd ((if_neg c).symm.trans h2) (fun z => by cases z)
    refine law_A (N := 5000) C hLx hsL hsx hrho (k := 86) (n := 1649) (by omega) (by omega) (fun s : Pd × Rd × St × St × Hb × St × St × St × St × St × St × Int32 × Int32 => kI (InvP (fun r => if r = a18 0 then some o0.2 else none) s.1 s.2.2.1 s.2.2.2.2.1 s.2.2.2.2.2.1 s.2.2.2.2.2.2.1 s.2.2.2.2.2.2.2.1 s.2.2.2.2.2.2.2.2.1 s.2.2.2.2.2.2.2.2.2.1 s.2.2.2.2.2.2.2.2.2.2.1 0 ∧ s.2.2.2.2.2.2.2.2.2.2.2.1 = 1 ∧ s.2.2.2.2.2.2.2.2.2.2.2.2 = nI 0)) ?_ (((fun _ => 0), 0), o0.1, (stI (a18 0)), (stI (a18 0)), (0, 0), (stI (a18 0)), (stI (a18 0)), (stI (a18 0)), (stI (a18 0)), (stI (a18 0)), (stI (a18 0))) (t8 (Nat.le_refl _) hL rfl ?_ (Rel_0 (a18 0)) (if_pos rfl) hM0 (fun _ _ _ _ _ _ _ _ _ _ _ z => kI_pos ⟨z, rfl, rfl⟩))
    · intro s hs
      obtain ⟨z2, z3, z4⟩ := kI_inv hs
      rw [z3, z4]
      exact law_loop C hLx hsL hsx hL a2 a3 a4 a5 a6 a7 a8 a9 a10 a11 a12 a13 7 0 rfl _ _ 86 1649 (by omega) (by omega) hrho s.1 s.2.1 s.2.2.1 s.2.2.2.1 s.2.2.2.2.1 s.2.2.2.2.2.1 s.2.2.2.2.2.2.1 s.2.2.2.2.2.2.2.1 s.2.2.2.2.2.2.2.2.1 s.2.2.2.2.2.2.2.2.2.1 s.2.2.2.2.2.2.2.2.2.2.1 z2
    · exact ⟨0, 0, by omega, by omega, rfl, rfl, Nat.zero_le _, fun j X h => by simp at h⟩
  subst hXe
  have hl := lv_entry ([.ref b]) (n := 11) (Nat.le_of_ble_eq_true rfl)
  rw [lg_entry_eq]
  exact main s.heap [] _ (fun k q h => by simp at h) ⟨fun i j p q h => by simp at h, fun k q h => by simp at h⟩ va_S.rf hl
set_option maxHeartbeats 4000000 in
theorem lw_walk (l : Launch) (hflags : l.flags = flags0) (b : Addr) (xs : List Int32) : MetFree l x (headSpec (Jvm.Cond.code x code maxLocals ret :: tables_1) room_1) (lw_P b xs) (fun _ _ _ _ _ => True) lw_Q := by
  refine MetFree.of_bodyS (code := code) (maxLocals := maxLocals) (ret := ret) (by decide) ?_ ?_
  · intro args s m h hn
    obtain ⟨meth, c, h1, h2, h3, h4, h5, h6, -, -⟩ := Cond.code_spec hn (atoms_spec (ws := Jvm.Cond.code x code maxLocals ret :: tables_1) h _ List.mem_cons_self)
    exact ⟨meth, c, h1, h2, h3, h4, h5, h6⟩
  · intro p e s m args below meth c s₁ B hml0 hP _
    obtain ⟨rfl, hx, hbd, hgv⟩ := hP
    obtain ⟨scr, harrAt, hlist, hof, hsmall⟩ := hx
    obtain ⟨hcb, hkn, -, -⟩ := State.arrayAt?_spec harrAt
    have hown : s.vm.findClass R_law = some m.cls := findClass_of_methodNamed B.named
    have hts0 : ∀ c ∈ (Jvm.Cond.code x code maxLocals ret :: tables_1), c.before #[Value.ref b] s = true := atoms_spec (ws := Jvm.Cond.code x code maxLocals ret :: tables_1) B.pre
    have hts : ∀ w ∈ lw_tbl, w.before #[Value.ref b] s = true := k2_hts_sels lw_privs (fun w hw => hts0 w (List.mem_cons_of_mem _ hw)) lw_privs_ok
    have hml : c.maxLocals = 11 := B.maxLocals_eq (hts0 _ List.mem_cons_self)
    have X₀ : Stand p l e room_1 s m #[Value.ref b] below meth c s₁ [] 0 0 := Stand.of_body B
    have hh0 : s₁.heap = s.heap := by rw [B.state]; rfl
    have hsz : scr.slots.size = xs.length := by rw [← Array.length_toList, hlist, List.length_map]
    have hval : ∀ j : Nat, j < xs.length → scr.slots[j]? = some (.int (xs.getD j 0)) := fun j hj => by
      rw [← Array.getElem?_toList, hlist]
      simp [hj]
    have hbl : b < s.heap.size := (Array.getElem?_eq_some_iff.mp hcb).1
    have hX : va_X b xs.length (fun j => xs.getD j 0) s s.heap := ⟨scr, hcb, hof, hkn, hsz, hval⟩
    have K : W p l e room_1 s m #[Value.ref b] below meth c s₁.heap [] 0 0 (lw_Z below #[Value.ref b] s) (entryFrame m ([Value.ref b] : List Value).toArray 11) := by
      rw [hh0]
      exact whole_start l hflags hbd ⟨B.exec, B.bytes, B.returns, hml, hown, hts, hX, hbl, B.notSynchronized, hgv⟩
    obtain ⟨t, a1, o, b1, b2, b3⟩ := K s₁ rfl X₀
    exact ⟨t, o, a1, b1, b2, b3⟩
theorem lw_pre_spec {args : Array Value} {s : State} (h : (Jvm.Cond.and given_1 narrow_1).before args s = true) (hr : rest_1_c.before args s = true) : ∃ (b : Addr) (xs : List Int32), lw_P b xs args s := by
  have hs := flat_of_before _ h
  have hq := flat_of_before _ hr
  have hc : (Cond.count 1).before args s = true := hs _ (by decide +kernel)
  have harr : (Cond.arrayOf (.arg 0) .int).before args s = true := hs _ (by decide +kernel)
  have hle : (Cond.le (.length (.arg 0)) (.int 260)).before args s = true := hs _ (by decide +kernel)
  have hlen : (Cond.isInt (.length (.arg 0))).before args s = true := hq _ (by decide +kernel)
  have hall : (Cond.all (.arg 0) (.isInt (.elem (.arg 0) (.index 0)))).before args s = true := hq _ (by decide +kernel)
  obtain ⟨b, xs, hb, hx⟩ := State.ints_of_pre rfl harr hlen hall
  have hsm : xs.length < 2 ^ 31 := hx.choose_spec.2.2.2
  have hev : (Term.length (.arg 0)).eval args s none [] s = some (.int xs.length.toInt32) := hx.length_eval hb
  have hv := Cond.le_ints hev (show (Term.int 260).eval args s none [] s = some (.int 260) from rfl)
  have hd : xs.length.toInt32 ≤ 260 := by
    simpa [Cond.before, Cond.holds, hv] using hle
  have hN : xs.length ≤ 260 := (Int32.ofNat_le_ofNat hsm (by decide)).mp (show Int32.ofNat xs.length ≤ Int32.ofNat 260 from hd)
  exact ⟨b, xs, Cond.one_arg hc (show args[0]? = some (.ref b) from hb), hx, hN, h⟩
theorem lw_comes (l : Launch) (hflags : l.flags = flags0) : Comes l x (Jvm.Cond.code x code maxLocals ret :: tables_1) room_1 (fun tb e args s => Calls_1 tb e args s ∧ rest_1 tb e args s ∧ Pre_1 tb e args s)
    (fun _ _ args s o t => lw_Q args s o t) := by
  intro p e ha hc hk s m args below hf hfit hheap happ hpre
  obtain ⟨b, xs, hP⟩ := lw_pre_spec hpre.2.2 hpre.2.1
  obtain ⟨k, o, h1, h2, h3, hQ⟩ := lw_walk l hflags b xs p e ha hc hk s m args below hf ((Spec.applies_iff_loose hf).mp happ).1 hP trivial
  exact ⟨k, o, h1, h2, h3, hQ⟩
theorem lw_frame {s t : State} {o : Outcome} {args : Array Value} (h : Framed s o t [] 600000 7302250) :
    Framed s o t (fieldLocs frame_1_writes args s ++ arrayLocs frame_1_arrays args s ++ staticLocs frame_1_statics s) 600000 7302250 := h
theorem lw_limb (L : Cond) (hL : ∀ (args : Array Value) (s t : State), L.after args s (.returned (some (.int 1))) t = true) :
    ArmFor flags0 classFile x code maxLocals ret World_1 tables_1 room_1 Calls_1 rest_1 Pre_1
      (fun tb e a s o t => postC L tb e a s o t ∧ Framed s o t (fieldLocs frame_1_writes a s ++ arrayLocs frame_1_arrays a s ++ staticLocs frame_1_statics s) 600000 7302250) := by
  intro l hflags _ _ p e ha hc hk s m args below hf hfit hheap happ hpre
  obtain ⟨k, o, h1, h2, h3, rfl, hF⟩ := lw_comes l hflags p e ha hc hk s m args below hf hfit hheap happ hpre
  exact ⟨k, _, h1, h2, h3, hL args s _, lw_frame hF⟩
theorem i_vc : Claimed_1_1 ∧ Claimed_1_2 := ⟨lw_limb limb_1_1 (fun args s t => by simp [limb_1_1, Cond.after, Cond.holds, Cond.value]), lw_limb limb_1_2 (fun args s t => Cond.after_iff.mpr (by
  first | (rw [show limb_1_2 = Cond.eq .result (.int 1) from rfl, Cond.eq_ints (x := 1) (y := 1) rfl rfl]; simp; done) | (simp [limb_1_2, Cond.value, Term.eval]; done)))⟩

