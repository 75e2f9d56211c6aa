def b_X2_read_49 (N : Nat) (V : Rd) (nt : Nat) (Tt : Fn) (p1 : Int32) (s : Rd × Ru) : Option (Rd × Ru) := ((f_X2_joinWaiting N s.1 s.2 (1 : Int32)).bind fun o1 => some (o1.1, o1.2))
def b_X2_read_21 (N : Nat) (V : Rd) (nt : Nat) (Tt : Fn) (p1 : Int32) (K21 : (Rd × Ru × Int32) → Option (Rd × Ru)) (s : Rd × Ru × Int32) : Option (Rd × Ru) := (if p1 ≤ s.2.2 then b_X2_read_49 N V nt Tt p1 (s.1, s.2.1) else (if (Int32.ofNat nt) ≤ s.2.2 then b_X2_read_49 N V nt Tt p1 (s.1, s.2.1) else (ix s.2.2 nt ((f_X2_take N s.1 s.2.1 (Tt (Int32.toNatClampNeg s.2.2))).bind fun o6 => K21 (o6.1, o6.2, (s.2.2 + (1 : Int32)))))))
def f_X2_read (N : Nat) (V : Rd) (nt : Nat) (Tt : Fn) (p1 : Int32) : Option (Rd × Ru) := lp (b_X2_read_21 N V nt Tt p1) N ((V.1, V.2.1, (0 : Int32), (0 : Int32)), ((fun _ => 0), (fun _ => 0), (fun _ => 0), (fun _ => 0), 0, 0), (0 : Int32))
abbrev rm_X2_read : Room := { frames := 5, cells := 5, slots := 246, locals := 116 }
set_option maxRecDepth 100000 in
theorem k_X2_read : CF yX2_read cX2_read 5 (some (.object "SoftStairs$Rule")) 2 := ⟨mt_116, mt_117, mt_3, mt_118, ⟨rfl, by decide +kernel, by decide +kernel, by decide +kernel⟩⟩
set_option maxHeartbeats 4000000 in
set_option maxRecDepth 100000 in
theorem c_X2_read {E : Ev} {a : Nat → Nat} {V : Rd} {gt : va_W} {tt : Nat} {nt : Nat} {Tt : Fn} (htt : (tt, .inl (E.2.1.2.1, nt, .inl Tt)) ∈ gt) {p1 : Int32} {N : Nat} {o : Rd × Ru} (hf : f_X2_read N V nt Tt p1 = some o) : ∀ l, MG l yX2_read cX2_read 5 (some (.object "SoftStairs$Rule")) rm_X2_read E [.ref (a 0), .ref tt, .int p1] [rd E a V, gt] (fun v Y => ∃ am : Nat → Nat, v = some (.ref (am 0)) ∧ Y = [rd E a o.1, gt, ru E (am 0) am o.2]) := by
  refine MG.mk (own := RX2) (lv0 := [(0, .ref (a 0)), (1, .ref tt), (2, .int p1)]) (by decide) rfl (Nat.le_of_ble_eq_true rfl) rfl (fun X C K I => ?_)
  have h49 : ∀ am : Nat → Nat, ∀ s : Rd × Ru, b_X2_read_49 N V nt Tt p1 s = some o → G E X 5 [rd E a s.1, gt, ru E (am 0) am s.2] 5 246 [(0, .ref (a 0)), (3, .ref (am 0))] [] 49 := by
    intro am s hf
    unfold b_X2_read_49 at hf
    refine g_aload_n C dX2_read_49 rfl 0 rfl ?_
    refine g_iconst (v := (1 : Int32)) C dX2_read_50 (by decide) ?_
    refine g_aload_n C dX2_read_51 rfl 1 rfl ?_
    obtain ⟨o1, hq2, hf⟩ := bind_s hf
    refine g_callV (As := [.int (1 : Int32), .ref (am 0)]) (rest := []) C k_X2_joinWaiting (fun l => c_X2_joinWaiting (E := E) (a := a) (V := s.1) (ax := am) (Vx := s.2) hq2 l) mt_156 [0, 2] rfl (by decide) ⟨_, _, _, _, List.mem_flatten.mpr ⟨_, List.mem_of_getElem? (i := 0) rfl, List.mem_of_getElem? (i := 0) rfl⟩, rfl⟩ rfl (Nat.le_of_ble_eq_true rfl) ⟨Nat.le_of_ble_eq_true rfl, Nat.le_of_ble_eq_true rfl, Nat.le_of_ble_eq_true rfl, Nat.le_of_ble_eq_true rfl⟩ dX2_read_52 ?_
    rintro _ _ ⟨rfl, rfl⟩
    show G E X 5 [rd E a o1.1, gt, ru E (am 0) am o1.2] 5 246 [(0, .ref (a 0)), (3, .ref (am 0))] [] 55
    refine g_aload_n C dX2_read_55 rfl 1 rfl ?_
    obtain rfl := Option.some.inj hf
    exact g_aret C K (Or.inl ⟨_, rfl⟩) dX2_read_56 (Nat.le_of_ble_eq_true rfl) (Nat.le_of_ble_eq_true rfl) ⟨am, rfl, rfl⟩
  have h21 : ∀ am : Nat → Nat, ∀ (n : Nat) (s : Rd × Ru × Int32), lp (b_X2_read_21 N V nt Tt p1) n s = some o → G E X 5 [rd E a s.1, gt, ru E (am 0) am s.2.1] 5 246 [(0, .ref (a 0)), (1, .ref tt), (2, .int p1), (3, .ref (am 0)), (4, .int s.2.2)] [] 21 := by
    intro am 
    refine lp_ind ?_
    intro K21 hK21 s hf
    unfold b_X2_read_21 at hf
    refine g_iload C dX2_read_21 4 rfl ?_
    refine g_iload_n C dX2_read_23 rfl 2 rfl ?_
    refine g_icmp_ge (tgt := 49) C dX2_read_24 (by decide) (fun c3 => ?_) (fun c3 => ?_)
    · have hf := (f_if hf).1 c3
      refine g_sub (lv2 := [(0, .ref (a 0)), (3, .ref (am 0))]) [0, 3] rfl ?_
      exact h49 am (s.1, s.2.1) hf
    · have hf := (f_if hf).2 c3
      refine g_iload C dX2_read_27 4 rfl ?_
      refine g_aload_n C dX2_read_29 rfl 1 rfl ?_
      refine g_alen C 1 rfl (htt) dX2_read_30 ?_
      refine g_icmp_ge (tgt := 49) C dX2_read_31 (by decide) (fun c4 => ?_) (fun c4 => ?_)
      · have hf := (f_if hf).1 c4
        refine g_sub (lv2 := [(0, .ref (a 0)), (3, .ref (am 0))]) [0, 3] rfl ?_
        exact h49 am (s.1, s.2.1) hf
      · have hf := (f_if hf).2 c4
        refine g_aload_n C dX2_read_34 rfl 0 rfl ?_
        refine g_aload_n C dX2_read_35 rfl 1 rfl ?_
        refine g_iload C dX2_read_36 4 rfl ?_
        obtain ⟨i5, hf⟩ := ix_s hf
        refine g_cald C 1 rfl (htt) i5 dX2_read_38 ?_
        refine g_aload_n C dX2_read_39 rfl 3 rfl ?_
        obtain ⟨o6, hq7, hf⟩ := bind_s hf
        refine g_callV (As := [.int (Tt (Int32.toNatClampNeg s.2.2)), .ref (am 0)]) (rest := []) C k_X2_take (fun l => c_X2_take (E := E) (a := a) (V := s.1) (ax := am) (Vx := s.2.1) hq7 l) mt_148 [0, 2] rfl (by decide) ⟨_, _, _, _, List.mem_flatten.mpr ⟨_, List.mem_of_getElem? (i := 0) rfl, List.mem_of_getElem? (i := 0) rfl⟩, rfl⟩ rfl (Nat.le_of_ble_eq_true rfl) ⟨Nat.le_of_ble_eq_true rfl, Nat.le_of_ble_eq_true rfl, Nat.le_of_ble_eq_true rfl, Nat.le_of_ble_eq_true rfl⟩ dX2_read_40 ?_
        rintro _ _ ⟨rfl, rfl⟩
        show G E X 5 [rd E a o6.1, gt, ru E (am 0) am o6.2] 5 246 [(0, .ref (a 0)), (1, .ref tt), (2, .int p1), (3, .ref (am 0)), (4, .int s.2.2)] [] 43
        refine g_iinc (v := (s.2.2 + (1 : Int32))) (lv2 := [(4, .int (s.2.2 + (1 : Int32))), (0, .ref (a 0)), (1, .ref tt), (2, .int p1), (3, .ref (am 0))]) C dX2_read_43 4 rfl (ii (by decide)) (by decide) rfl ?_
        refine g_goto (tgt := 21) C dX2_read_46 (by decide) ?_
        refine g_sub (lv2 := [(0, .ref (a 0)), (1, .ref tt), (2, .int p1), (3, .ref (am 0)), (4, .int (s.2.2 + (1 : Int32)))]) [1, 2, 3, 4, 0] rfl ?_
        exact hK21 (o6.1, o6.2, (s.2.2 + (1 : Int32))) hf
  unfold f_X2_read at hf
  refine g_new (ci := 3) (Cl := RX3) (T := TX3) (N := 6) (fs := [.null, .null, .null, .null, .int 0, .int 0]) C mi_X3 tyX3_ok mt_119 mt_120 mt_8 rfl (fun j hj => by rcases (show j = 0 ∨ j = 1 ∨ j = 2 ∨ j = 3 ∨ j = 4 ∨ j = 5 by omega) with rfl | rfl | rfl | rfl | rfl | rfl <;> rfl) (Nat.le_of_ble_eq_true rfl) (Nat.le_of_ble_eq_true rfl) dX2_read_0 (fun q8 => ?_)
  show G E X 5 [rd E a V, gt, [(q8, .inr (3, [.null, .null, .null, .null, .int 0, .int 0]))]] 1 6 [(0, .ref (a 0)), (1, .ref tt), (2, .int p1)] [.ref q8] 3
  refine g_dup C dX2_read_3 rfl ?_
  refine g_callIN (As := []) (rest := [.ref q8]) C k_X3_init (fun l => c_X3_init (E := E) (q := q8) l) (fun _ h => h.2.2.1) [2] rfl (by decide) rfl (Nat.le_of_ble_eq_true rfl) ⟨Nat.le_of_ble_eq_true rfl, Nat.le_of_ble_eq_true rfl, Nat.le_of_ble_eq_true rfl, Nat.le_of_ble_eq_true rfl⟩ dX2_read_4 ?_
  rintro _ _ ⟨rfl, a9, e10, rfl⟩
  subst e10
  show G E X 5 [rd E a V, gt, ru E (a9 0) a9 ((fun _ => 0), (fun _ => 0), (fun _ => 0), (fun _ => 0), 0, 0)] 5 246 [(0, .ref (a 0)), (1, .ref tt), (2, .int p1)] [.ref (a9 0)] 7
  refine g_astore_n (lv2 := [(3, .ref (a9 0)), (0, .ref (a 0)), (1, .ref tt), (2, .int p1)]) C dX2_read_7 rfl (by decide) rfl ?_
  refine g_aload_n C dX2_read_8 rfl 1 rfl ?_
  refine g_iconst (v := (0 : Int32)) C dX2_read_9 (by decide) ?_
  refine g_put (Cl := RX2) (T := TX2) (N := 4) (Y2 := [rd E a (V.1, V.2.1, (0 : Int32), V.2.2.2), gt, ru E (a9 0) a9 ((fun _ => 0), (fun _ => 0), (fun _ => 0), (fun _ => 0), 0, 0)]) C mi_X2 tyX2_ok nmX2 0 0 rfl rfl rfl 2 (by decide) mt_47 rfl rfl rfl rfl rfl (Nat.le_of_ble_eq_true rfl) dX2_read_10 rfl ?_
  refine g_aload_n C dX2_read_13 rfl 1 rfl ?_
  refine g_iconst (v := (0 : Int32)) C dX2_read_14 (by decide) ?_
  refine g_put (Cl := RX2) (T := TX2) (N := 4) (Y2 := [rd E a (V.1, V.2.1, (0 : Int32), (0 : Int32)), gt, ru E (a9 0) a9 ((fun _ => 0), (fun _ => 0), (fun _ => 0), (fun _ => 0), 0, 0)]) C mi_X2 tyX2_ok nmX2 0 0 rfl rfl rfl 3 (by decide) mt_48 rfl rfl rfl rfl rfl (Nat.le_of_ble_eq_true rfl) dX2_read_15 rfl ?_
  refine g_iconst (v := (0 : Int32)) C dX2_read_18 (by decide) ?_
  refine g_istore (lv2 := [(4, .int (0 : Int32)), (3, .ref (a9 0)), (0, .ref (a 0)), (1, .ref tt), (2, .int p1)]) C dX2_read_19 (by decide) rfl ?_
  refine g_sub (lv2 := [(0, .ref (a 0)), (1, .ref tt), (2, .int p1), (3, .ref (a9 0)), (4, .int (0 : Int32))]) [2, 3, 4, 1, 0] rfl ?_
  exact h21 a9 N ((V.1, V.2.1, (0 : Int32), (0 : Int32)), ((fun _ => 0), (fun _ => 0), (fun _ => 0), (fun _ => 0), 0, 0), (0 : Int32)) hf
