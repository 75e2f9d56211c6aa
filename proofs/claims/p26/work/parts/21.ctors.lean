abbrev rm_X3_init : Room := { frames := 1, cells := 4, slots := 240, locals := 12 }
set_option maxRecDepth 100000 in
theorem k_X3_init : CFi yX3_init cX3_init 1 0 := ⟨mt_122, mt_8, mt_123, rfl, ⟨by decide +kernel, by decide +kernel, by decide +kernel⟩⟩
set_option maxHeartbeats 4000000 in
set_option maxRecDepth 100000 in
theorem c_X3_init {E : Ev} {q : Nat} : ∀ l, MG l yX3_init cX3_init 1 none rm_X3_init E [.ref q] [[(q, .inr (3, [.null, .null, .null, .null, .int 0, .int 0]))]] (fun v Y => v = none ∧ ∃ a : Nat → Nat, a 0 = q ∧ Y = [ru E (a 0) a ((fun _ => 0), (fun _ => 0), (fun _ => 0), (fun _ => 0), 0, 0)]) := by
  refine MG.mk (own := RX3) (lv0 := [(0, .ref q)]) (by decide) rfl (Nat.le_of_ble_eq_true rfl) rfl (fun X C K I => ?_)
  refine g_aload_n C dX3_init_0 rfl 0 rfl ?_
  refine g_objInit C mt_124 mt_21 mt_22 (Nat.le_of_ble_eq_true rfl) (Nat.le_of_ble_eq_true rfl) dX3_init_1 ?_
  refine g_aload_n C dX3_init_4 rfl 0 rfl ?_
  refine g_bipush (v := (60 : Int32)) C dX3_init_5 (by decide) ?_
  refine g_newC (N := 60) C mt_38 (by decide) (by decide) (by decide) (Nat.le_of_ble_eq_true rfl) (Nat.le_of_ble_eq_true rfl) dX3_init_7 (fun q1 => ?_)
  show G E X 1 [[(q, .inr (3, [.null, .null, .null, .null, .int 0, .int 0]))], [(q1, .inl (E.2.1.2.1, 60, .inl (fun _ => 0)))]] 1 60 [(0, .ref q)] [.ref q1, .ref q] 9
  refine g_putF (Cl := RX3) (T := TX3) (N := 6) (Y2 := [[(q, .inr (3, [.ref q1, .null, .null, .null, .int 0, .int 0]))], [(q1, .inl (E.2.1.2.1, 60, .inl (fun _ => 0)))]]) C (I rfl) mi_X3 tyX3_ok nmX3 0 0 rfl rfl rfl 0 (by decide) mt_125 rfl rfl rfl rfl rfl rfl (Nat.le_of_ble_eq_true rfl) dX3_init_9 rfl ?_
  refine g_aload_n C dX3_init_12 rfl 0 rfl ?_
  refine g_bipush (v := (60 : Int32)) C dX3_init_13 (by decide) ?_
  refine g_newI (N := 60) C mt_58 (by decide) (by decide) (by decide) (Nat.le_of_ble_eq_true rfl) (Nat.le_of_ble_eq_true rfl) dX3_init_15 (fun q2 => ?_)
  show G E X 1 [[(q, .inr (3, [.ref q1, .null, .null, .null, .int 0, .int 0]))], [(q1, .inl (E.2.1.2.1, 60, .inl (fun _ => 0)))], [(q2, .inl (E.2.1.1, 60, .inl (fun _ => 0)))]] 2 120 [(0, .ref q)] [.ref q2, .ref q] 17
  refine g_putF (Cl := RX3) (T := TX3) (N := 6) (Y2 := [[(q, .inr (3, [.ref q1, .ref q2, .null, .null, .int 0, .int 0]))], [(q1, .inl (E.2.1.2.1, 60, .inl (fun _ => 0)))], [(q2, .inl (E.2.1.1, 60, .inl (fun _ => 0)))]]) C (I rfl) mi_X3 tyX3_ok nmX3 0 0 rfl rfl rfl 1 (by decide) mt_126 rfl rfl rfl rfl rfl rfl (Nat.le_of_ble_eq_true rfl) dX3_init_17 rfl ?_
  refine g_aload_n C dX3_init_20 rfl 0 rfl ?_
  refine g_bipush (v := (60 : Int32)) C dX3_init_21 (by decide) ?_
  refine g_newI (N := 60) C mt_58 (by decide) (by decide) (by decide) (Nat.le_of_ble_eq_true rfl) (Nat.le_of_ble_eq_true rfl) dX3_init_23 (fun q3 => ?_)
  show G E X 1 [[(q, .inr (3, [.ref q1, .ref q2, .null, .null, .int 0, .int 0]))], [(q1, .inl (E.2.1.2.1, 60, .inl (fun _ => 0)))], [(q2, .inl (E.2.1.1, 60, .inl (fun _ => 0)))], [(q3, .inl (E.2.1.1, 60, .inl (fun _ => 0)))]] 3 180 [(0, .ref q)] [.ref q3, .ref q] 25
  refine g_putF (Cl := RX3) (T := TX3) (N := 6) (Y2 := [[(q, .inr (3, [.ref q1, .ref q2, .ref q3, .null, .int 0, .int 0]))], [(q1, .inl (E.2.1.2.1, 60, .inl (fun _ => 0)))], [(q2, .inl (E.2.1.1, 60, .inl (fun _ => 0)))], [(q3, .inl (E.2.1.1, 60, .inl (fun _ => 0)))]]) C (I rfl) mi_X3 tyX3_ok nmX3 0 0 rfl rfl rfl 2 (by decide) mt_127 rfl rfl rfl rfl rfl rfl (Nat.le_of_ble_eq_true rfl) dX3_init_25 rfl ?_
  refine g_aload_n C dX3_init_28 rfl 0 rfl ?_
  refine g_bipush (v := (60 : Int32)) C dX3_init_29 (by decide) ?_
  refine g_newI (N := 60) C mt_58 (by decide) (by decide) (by decide) (Nat.le_of_ble_eq_true rfl) (Nat.le_of_ble_eq_true rfl) dX3_init_31 (fun q4 => ?_)
  show G E X 1 [[(q, .inr (3, [.ref q1, .ref q2, .ref q3, .null, .int 0, .int 0]))], [(q1, .inl (E.2.1.2.1, 60, .inl (fun _ => 0)))], [(q2, .inl (E.2.1.1, 60, .inl (fun _ => 0)))], [(q3, .inl (E.2.1.1, 60, .inl (fun _ => 0)))], [(q4, .inl (E.2.1.1, 60, .inl (fun _ => 0)))]] 4 240 [(0, .ref q)] [.ref q4, .ref q] 33
  refine g_putF (Cl := RX3) (T := TX3) (N := 6) (Y2 := [[(q, .inr (3, [.ref q1, .ref q2, .ref q3, .ref q4, .int 0, .int 0]))], [(q1, .inl (E.2.1.2.1, 60, .inl (fun _ => 0)))], [(q2, .inl (E.2.1.1, 60, .inl (fun _ => 0)))], [(q3, .inl (E.2.1.1, 60, .inl (fun _ => 0)))], [(q4, .inl (E.2.1.1, 60, .inl (fun _ => 0)))]]) C (I rfl) mi_X3 tyX3_ok nmX3 0 0 rfl rfl rfl 3 (by decide) mt_128 rfl rfl rfl rfl rfl rfl (Nat.le_of_ble_eq_true rfl) dX3_init_33 rfl ?_
  refine g_cut (Y2 := [ru E ((fun i => [q, q1, q2, q3, q4].getD i 0) 0) (fun i => [q, q1, q2, q3, q4].getD i 0) ((fun _ => 0), (fun _ => 0), (fun _ => 0), (fun _ => 0), 0, 0)]) (List.Perm.of_eq rfl) ?_
  exact g_ret C K dX3_init_36 (Nat.le_of_ble_eq_true rfl) (Nat.le_of_ble_eq_true rfl) ⟨rfl, (fun i => [q, q1, q2, q3, q4].getD i 0), rfl, rfl⟩
abbrev rm_X1_init : Room := { frames := 1, cells := 1, slots := 60, locals := 12 }
set_option maxRecDepth 100000 in
theorem k_X1_init : CFi yX1_init cX1_init 1 0 := ⟨mt_26, mt_2, mt_27, rfl, ⟨by decide +kernel, by decide +kernel, by decide +kernel⟩⟩
set_option maxHeartbeats 4000000 in
set_option maxRecDepth 100000 in
theorem c_X1_init {E : Ev} {q : Nat} : ∀ l, MG l yX1_init cX1_init 1 none rm_X1_init E [.ref q] [[(q, .inr (1, [.null, .int 0]))]] (fun v Y => v = none ∧ ∃ a : Nat → Nat, a 0 = q ∧ Y = [pd E a ((fun _ => 0), 0)]) := by
  refine MG.mk (own := RX1) (lv0 := [(0, .ref q)]) (by decide) rfl (Nat.le_of_ble_eq_true rfl) rfl (fun X C K I => ?_)
  refine g_aload_n C dX1_init_0 rfl 0 rfl ?_
  refine g_objInit C mt_28 mt_21 mt_22 (Nat.le_of_ble_eq_true rfl) (Nat.le_of_ble_eq_true rfl) dX1_init_1 ?_
  refine g_aload_n C dX1_init_4 rfl 0 rfl ?_
  refine g_bipush (v := (60 : Int32)) C dX1_init_5 (by decide) ?_
  refine g_newC (N := 60) C mt_38 (by decide) (by decide) (by decide) (Nat.le_of_ble_eq_true rfl) (Nat.le_of_ble_eq_true rfl) dX1_init_7 (fun q1 => ?_)
  show G E X 1 [[(q, .inr (1, [.null, .int 0]))], [(q1, .inl (E.2.1.2.1, 60, .inl (fun _ => 0)))]] 1 60 [(0, .ref q)] [.ref q1, .ref q] 9
  refine g_putF (Cl := RX1) (T := TX1) (N := 2) (Y2 := [[(q, .inr (1, [.ref q1, .int 0]))], [(q1, .inl (E.2.1.2.1, 60, .inl (fun _ => 0)))]]) C (I rfl) mi_X1 tyX1_ok nmX1 0 0 rfl rfl rfl 0 (by decide) mt_29 rfl rfl rfl rfl rfl rfl (Nat.le_of_ble_eq_true rfl) dX1_init_9 rfl ?_
  refine g_cut (Y2 := [pd E (fun i => [q, q1].getD i 0) ((fun _ => 0), 0)]) (List.Perm.of_eq rfl) ?_
  exact g_ret C K dX1_init_12 (Nat.le_of_ble_eq_true rfl) (Nat.le_of_ble_eq_true rfl) ⟨rfl, (fun i => [q, q1].getD i 0), rfl, rfl⟩
abbrev rm_X2_init : Room := { frames := 1, cells := 2, slots := 120, locals := 12 }
set_option maxRecDepth 100000 in
theorem k_X2_init : CFi yX2_init cX2_init 1 0 := ⟨mt_42, mt_3, mt_43, rfl, ⟨by decide +kernel, by decide +kernel, by decide +kernel⟩⟩
set_option maxHeartbeats 4000000 in
set_option maxRecDepth 100000 in
theorem c_X2_init {E : Ev} {q : Nat} : ∀ l, MG l yX2_init cX2_init 1 none rm_X2_init E [.ref q] [[(q, .inr (2, [.null, .null, .int 0, .int 0]))]] (fun v Y => v = none ∧ ∃ a : Nat → Nat, a 0 = q ∧ Y = [rd E a ((fun _ => 0), (fun _ => 0), 0, 0)]) := by
  refine MG.mk (own := RX2) (lv0 := [(0, .ref q)]) (by decide) rfl (Nat.le_of_ble_eq_true rfl) rfl (fun X C K I => ?_)
  refine g_aload_n C dX2_init_0 rfl 0 rfl ?_
  refine g_objInit C mt_44 mt_21 mt_22 (Nat.le_of_ble_eq_true rfl) (Nat.le_of_ble_eq_true rfl) dX2_init_1 ?_
  refine g_aload_n C dX2_init_4 rfl 0 rfl ?_
  refine g_bipush (v := (60 : Int32)) C dX2_init_5 (by decide) ?_
  refine g_newC (N := 60) C mt_38 (by decide) (by decide) (by decide) (Nat.le_of_ble_eq_true rfl) (Nat.le_of_ble_eq_true rfl) dX2_init_7 (fun q1 => ?_)
  show G E X 1 [[(q, .inr (2, [.null, .null, .int 0, .int 0]))], [(q1, .inl (E.2.1.2.1, 60, .inl (fun _ => 0)))]] 1 60 [(0, .ref q)] [.ref q1, .ref q] 9
  refine g_putF (Cl := RX2) (T := TX2) (N := 4) (Y2 := [[(q, .inr (2, [.ref q1, .null, .int 0, .int 0]))], [(q1, .inl (E.2.1.2.1, 60, .inl (fun _ => 0)))]]) C (I rfl) mi_X2 tyX2_ok nmX2 0 0 rfl rfl rfl 0 (by decide) mt_45 rfl rfl rfl rfl rfl rfl (Nat.le_of_ble_eq_true rfl) dX2_init_9 rfl ?_
  refine g_aload_n C dX2_init_12 rfl 0 rfl ?_
  refine g_bipush (v := (60 : Int32)) C dX2_init_13 (by decide) ?_
  refine g_newI (N := 60) C mt_58 (by decide) (by decide) (by decide) (Nat.le_of_ble_eq_true rfl) (Nat.le_of_ble_eq_true rfl) dX2_init_15 (fun q2 => ?_)
  show G E X 1 [[(q, .inr (2, [.ref q1, .null, .int 0, .int 0]))], [(q1, .inl (E.2.1.2.1, 60, .inl (fun _ => 0)))], [(q2, .inl (E.2.1.1, 60, .inl (fun _ => 0)))]] 2 120 [(0, .ref q)] [.ref q2, .ref q] 17
  refine g_putF (Cl := RX2) (T := TX2) (N := 4) (Y2 := [[(q, .inr (2, [.ref q1, .ref q2, .int 0, .int 0]))], [(q1, .inl (E.2.1.2.1, 60, .inl (fun _ => 0)))], [(q2, .inl (E.2.1.1, 60, .inl (fun _ => 0)))]]) C (I rfl) mi_X2 tyX2_ok nmX2 0 0 rfl rfl rfl 1 (by decide) mt_46 rfl rfl rfl rfl rfl rfl (Nat.le_of_ble_eq_true rfl) dX2_init_17 rfl ?_
  refine g_cut (Y2 := [rd E (fun i => [q, q1, q2].getD i 0) ((fun _ => 0), (fun _ => 0), 0, 0)]) (List.Perm.of_eq rfl) ?_
  exact g_ret C K dX2_init_20 (Nat.le_of_ble_eq_true rfl) (Nat.le_of_ble_eq_true rfl) ⟨rfl, (fun i => [q, q1, q2].getD i 0), rfl, rfl⟩
abbrev stI (fr : Nat) : St := ((va_cpy (fun j => lstF.getD j 0) (fun _ => 0) (Int32.toNatClampNeg (0 : Int32)) (Int32.toNatClampNeg (0 : Int32)) (Int32.toNatClampNeg (7 : Int32))), (fun _ => 0), (fun _ => 0), (fun _ => 0), (fun _ => 0), (fun _ => 0), fr, 0, 0, (0 : Int32), 0, 0, 0, 0, 0, 0, 0, 0)
abbrev rm_X4_init : Room := { frames := 1, cells := 6, slots := 101, locals := 20 }
set_option maxRecDepth 100000 in
theorem k_X4_init : CFi yX4_init cX4_init 2 1 := ⟨mt_202, mt_10, mt_203, rfl, ⟨by decide +kernel, by decide +kernel, by decide +kernel⟩⟩
set_option maxHeartbeats 4000000 in
set_option maxRecDepth 100000 in
theorem c_X4_init {E : Ev} {q : Nat} {fr : Nat} : ∀ l, MG l yX4_init cX4_init 2 none rm_X4_init E [.ref q, .ref fr] [[(q, .inr (4, [.null, .null, .null, .null, .null, .null, .null, .int 0, .int 0, .int 0, .int 0, .int 0, .int 0, .int 0, .int 0, .int 0, .int 0, .int 0]))]] (fun v Y => v = none ∧ ∃ a : Nat → Nat, a 0 = q ∧ Y = [sc E a (stI fr)]) := by
  refine MG.mk (own := RX4) (lv0 := [(0, .ref q), (1, .ref fr)]) (by decide) rfl (Nat.le_of_ble_eq_true rfl) rfl (fun X C K I => ?_)
  refine g_aload_n C dX4_init_0 rfl 0 rfl ?_
  refine g_objInit C mt_204 mt_21 mt_22 (Nat.le_of_ble_eq_true rfl) (Nat.le_of_ble_eq_true rfl) dX4_init_1 ?_
  refine g_aload_n C dX4_init_4 rfl 0 rfl ?_
  refine g_bipush (v := (7 : Int32)) C dX4_init_5 (by decide) ?_
  refine g_newI (N := 7) C mt_58 (by decide) (by decide) (by decide) (Nat.le_of_ble_eq_true rfl) (Nat.le_of_ble_eq_true rfl) dX4_init_7 (fun q1 => ?_)
  show G E X 2 [[(q, .inr (4, [.null, .null, .null, .null, .null, .null, .null, .int 0, .int 0, .int 0, .int 0, .int 0, .int 0, .int 0, .int 0, .int 0, .int 0, .int 0]))], [(q1, .inl (E.2.1.1, 7, .inl (fun _ => 0)))]] 1 7 [(0, .ref q), (1, .ref fr)] [.ref q1, .ref q] 9
  refine g_putF (Cl := RX4) (T := TX4) (N := 18) (Y2 := [[(q, .inr (4, [.ref q1, .null, .null, .null, .null, .null, .null, .int 0, .int 0, .int 0, .int 0, .int 0, .int 0, .int 0, .int 0, .int 0, .int 0, .int 0]))], [(q1, .inl (E.2.1.1, 7, .inl (fun _ => 0)))]]) C (I rfl) mi_X4 tyX4_ok nmX4 0 0 rfl rfl rfl 0 (by decide) mt_210 rfl rfl rfl rfl rfl rfl (Nat.le_of_ble_eq_true rfl) dX4_init_9 rfl ?_
  refine g_aload_n C dX4_init_12 rfl 0 rfl ?_
  refine g_bipush (v := (20 : Int32)) C dX4_init_13 (by decide) ?_
  refine g_newI (N := 20) C mt_58 (by decide) (by decide) (by decide) (Nat.le_of_ble_eq_true rfl) (Nat.le_of_ble_eq_true rfl) dX4_init_15 (fun q2 => ?_)
  show G E X 2 [[(q, .inr (4, [.ref q1, .null, .null, .null, .null, .null, .null, .int 0, .int 0, .int 0, .int 0, .int 0, .int 0, .int 0, .int 0, .int 0, .int 0, .int 0]))], [(q1, .inl (E.2.1.1, 7, .inl (fun _ => 0)))], [(q2, .inl (E.2.1.1, 20, .inl (fun _ => 0)))]] 2 27 [(0, .ref q), (1, .ref fr)] [.ref q2, .ref q] 17
  refine g_putF (Cl := RX4) (T := TX4) (N := 18) (Y2 := [[(q, .inr (4, [.ref q1, .ref q2, .null, .null, .null, .null, .null, .int 0, .int 0, .int 0, .int 0, .int 0, .int 0, .int 0, .int 0, .int 0, .int 0, .int 0]))], [(q1, .inl (E.2.1.1, 7, .inl (fun _ => 0)))], [(q2, .inl (E.2.1.1, 20, .inl (fun _ => 0)))]]) C (I rfl) mi_X4 tyX4_ok nmX4 0 0 rfl rfl rfl 1 (by decide) mt_212 rfl rfl rfl rfl rfl rfl (Nat.le_of_ble_eq_true rfl) dX4_init_17 rfl ?_
  refine g_aload_n C dX4_init_20 rfl 0 rfl ?_
  refine g_bipush (v := (20 : Int32)) C dX4_init_21 (by decide) ?_
  refine g_newI (N := 20) C mt_58 (by decide) (by decide) (by decide) (Nat.le_of_ble_eq_true rfl) (Nat.le_of_ble_eq_true rfl) dX4_init_23 (fun q3 => ?_)
  show G E X 2 [[(q, .inr (4, [.ref q1, .ref q2, .null, .null, .null, .null, .null, .int 0, .int 0, .int 0, .int 0, .int 0, .int 0, .int 0, .int 0, .int 0, .int 0, .int 0]))], [(q1, .inl (E.2.1.1, 7, .inl (fun _ => 0)))], [(q2, .inl (E.2.1.1, 20, .inl (fun _ => 0)))], [(q3, .inl (E.2.1.1, 20, .inl (fun _ => 0)))]] 3 47 [(0, .ref q), (1, .ref fr)] [.ref q3, .ref q] 25
  refine g_putF (Cl := RX4) (T := TX4) (N := 18) (Y2 := [[(q, .inr (4, [.ref q1, .ref q2, .ref q3, .null, .null, .null, .null, .int 0, .int 0, .int 0, .int 0, .int 0, .int 0, .int 0, .int 0, .int 0, .int 0, .int 0]))], [(q1, .inl (E.2.1.1, 7, .inl (fun _ => 0)))], [(q2, .inl (E.2.1.1, 20, .inl (fun _ => 0)))], [(q3, .inl (E.2.1.1, 20, .inl (fun _ => 0)))]]) C (I rfl) mi_X4 tyX4_ok nmX4 0 0 rfl rfl rfl 2 (by decide) mt_214 rfl rfl rfl rfl rfl rfl (Nat.le_of_ble_eq_true rfl) dX4_init_25 rfl ?_
  refine g_aload_n C dX4_init_28 rfl 0 rfl ?_
  refine g_bipush (v := (20 : Int32)) C dX4_init_29 (by decide) ?_
  refine g_newI (N := 20) C mt_58 (by decide) (by decide) (by decide) (Nat.le_of_ble_eq_true rfl) (Nat.le_of_ble_eq_true rfl) dX4_init_31 (fun q4 => ?_)
  show G E X 2 [[(q, .inr (4, [.ref q1, .ref q2, .ref q3, .null, .null, .null, .null, .int 0, .int 0, .int 0, .int 0, .int 0, .int 0, .int 0, .int 0, .int 0, .int 0, .int 0]))], [(q1, .inl (E.2.1.1, 7, .inl (fun _ => 0)))], [(q2, .inl (E.2.1.1, 20, .inl (fun _ => 0)))], [(q3, .inl (E.2.1.1, 20, .inl (fun _ => 0)))], [(q4, .inl (E.2.1.1, 20, .inl (fun _ => 0)))]] 4 67 [(0, .ref q), (1, .ref fr)] [.ref q4, .ref q] 33
  refine g_putF (Cl := RX4) (T := TX4) (N := 18) (Y2 := [[(q, .inr (4, [.ref q1, .ref q2, .ref q3, .ref q4, .null, .null, .null, .int 0, .int 0, .int 0, .int 0, .int 0, .int 0, .int 0, .int 0, .int 0, .int 0, .int 0]))], [(q1, .inl (E.2.1.1, 7, .inl (fun _ => 0)))], [(q2, .inl (E.2.1.1, 20, .inl (fun _ => 0)))], [(q3, .inl (E.2.1.1, 20, .inl (fun _ => 0)))], [(q4, .inl (E.2.1.1, 20, .inl (fun _ => 0)))]]) C (I rfl) mi_X4 tyX4_ok nmX4 0 0 rfl rfl rfl 3 (by decide) mt_216 rfl rfl rfl rfl rfl rfl (Nat.le_of_ble_eq_true rfl) dX4_init_33 rfl ?_
  refine g_aload_n C dX4_init_36 rfl 0 rfl ?_
  refine g_iconst (v := (4 : Int32)) C dX4_init_37 (by decide) ?_
  refine g_newI (N := 4) C mt_58 (by decide) (by decide) (by decide) (Nat.le_of_ble_eq_true rfl) (Nat.le_of_ble_eq_true rfl) dX4_init_38 (fun q5 => ?_)
  show G E X 2 [[(q, .inr (4, [.ref q1, .ref q2, .ref q3, .ref q4, .null, .null, .null, .int 0, .int 0, .int 0, .int 0, .int 0, .int 0, .int 0, .int 0, .int 0, .int 0, .int 0]))], [(q1, .inl (E.2.1.1, 7, .inl (fun _ => 0)))], [(q2, .inl (E.2.1.1, 20, .inl (fun _ => 0)))], [(q3, .inl (E.2.1.1, 20, .inl (fun _ => 0)))], [(q4, .inl (E.2.1.1, 20, .inl (fun _ => 0)))], [(q5, .inl (E.2.1.1, 4, .inl (fun _ => 0)))]] 5 71 [(0, .ref q), (1, .ref fr)] [.ref q5, .ref q] 40
  refine g_putF (Cl := RX4) (T := TX4) (N := 18) (Y2 := [[(q, .inr (4, [.ref q1, .ref q2, .ref q3, .ref q4, .ref q5, .null, .null, .int 0, .int 0, .int 0, .int 0, .int 0, .int 0, .int 0, .int 0, .int 0, .int 0, .int 0]))], [(q1, .inl (E.2.1.1, 7, .inl (fun _ => 0)))], [(q2, .inl (E.2.1.1, 20, .inl (fun _ => 0)))], [(q3, .inl (E.2.1.1, 20, .inl (fun _ => 0)))], [(q4, .inl (E.2.1.1, 20, .inl (fun _ => 0)))], [(q5, .inl (E.2.1.1, 4, .inl (fun _ => 0)))]]) C (I rfl) mi_X4 tyX4_ok nmX4 0 0 rfl rfl rfl 4 (by decide) mt_218 rfl rfl rfl rfl rfl rfl (Nat.le_of_ble_eq_true rfl) dX4_init_40 rfl ?_
  refine g_aload_n C dX4_init_43 rfl 0 rfl ?_
  refine g_bipush (v := (30 : Int32)) C dX4_init_44 (by decide) ?_
  refine g_newI (N := 30) C mt_58 (by decide) (by decide) (by decide) (Nat.le_of_ble_eq_true rfl) (Nat.le_of_ble_eq_true rfl) dX4_init_46 (fun q6 => ?_)
  show G E X 2 [[(q, .inr (4, [.ref q1, .ref q2, .ref q3, .ref q4, .ref q5, .null, .null, .int 0, .int 0, .int 0, .int 0, .int 0, .int 0, .int 0, .int 0, .int 0, .int 0, .int 0]))], [(q1, .inl (E.2.1.1, 7, .inl (fun _ => 0)))], [(q2, .inl (E.2.1.1, 20, .inl (fun _ => 0)))], [(q3, .inl (E.2.1.1, 20, .inl (fun _ => 0)))], [(q4, .inl (E.2.1.1, 20, .inl (fun _ => 0)))], [(q5, .inl (E.2.1.1, 4, .inl (fun _ => 0)))], [(q6, .inl (E.2.1.1, 30, .inl (fun _ => 0)))]] 6 101 [(0, .ref q), (1, .ref fr)] [.ref q6, .ref q] 48
  refine g_putF (Cl := RX4) (T := TX4) (N := 18) (Y2 := [[(q, .inr (4, [.ref q1, .ref q2, .ref q3, .ref q4, .ref q5, .ref q6, .null, .int 0, .int 0, .int 0, .int 0, .int 0, .int 0, .int 0, .int 0, .int 0, .int 0, .int 0]))], [(q1, .inl (E.2.1.1, 7, .inl (fun _ => 0)))], [(q2, .inl (E.2.1.1, 20, .inl (fun _ => 0)))], [(q3, .inl (E.2.1.1, 20, .inl (fun _ => 0)))], [(q4, .inl (E.2.1.1, 20, .inl (fun _ => 0)))], [(q5, .inl (E.2.1.1, 4, .inl (fun _ => 0)))], [(q6, .inl (E.2.1.1, 30, .inl (fun _ => 0)))]]) C (I rfl) mi_X4 tyX4_ok nmX4 0 0 rfl rfl rfl 5 (by decide) mt_220 rfl rfl rfl rfl rfl rfl (Nat.le_of_ble_eq_true rfl) dX4_init_48 rfl ?_
  refine g_aload_n C dX4_init_51 rfl 0 rfl ?_
  refine g_iconst (v := (0 : Int32)) C dX4_init_52 (by decide) ?_
  refine g_put (Cl := RX4) (T := TX4) (N := 18) (Y2 := [[(q, .inr (4, [.ref q1, .ref q2, .ref q3, .ref q4, .ref q5, .ref q6, .null, .int 0, .int 0, .int (0 : Int32), .int 0, .int 0, .int 0, .int 0, .int 0, .int 0, .int 0, .int 0]))], [(q1, .inl (E.2.1.1, 7, .inl (fun _ => 0)))], [(q2, .inl (E.2.1.1, 20, .inl (fun _ => 0)))], [(q3, .inl (E.2.1.1, 20, .inl (fun _ => 0)))], [(q4, .inl (E.2.1.1, 20, .inl (fun _ => 0)))], [(q5, .inl (E.2.1.1, 4, .inl (fun _ => 0)))], [(q6, .inl (E.2.1.1, 30, .inl (fun _ => 0)))]]) C mi_X4 tyX4_ok nmX4 0 0 rfl rfl rfl 9 (by decide) mt_228 rfl rfl rfl rfl rfl (Nat.le_of_ble_eq_true rfl) dX4_init_53 rfl ?_
  refine g_aload_n C dX4_init_56 rfl 0 rfl ?_
  refine g_aload_n C dX4_init_57 rfl 1 rfl ?_
  refine g_put (Cl := RX4) (T := TX4) (N := 18) (Y2 := [[(q, .inr (4, [.ref q1, .ref q2, .ref q3, .ref q4, .ref q5, .ref q6, .ref fr, .int 0, .int 0, .int (0 : Int32), .int 0, .int 0, .int 0, .int 0, .int 0, .int 0, .int 0, .int 0]))], [(q1, .inl (E.2.1.1, 7, .inl (fun _ => 0)))], [(q2, .inl (E.2.1.1, 20, .inl (fun _ => 0)))], [(q3, .inl (E.2.1.1, 20, .inl (fun _ => 0)))], [(q4, .inl (E.2.1.1, 20, .inl (fun _ => 0)))], [(q5, .inl (E.2.1.1, 4, .inl (fun _ => 0)))], [(q6, .inl (E.2.1.1, 30, .inl (fun _ => 0)))]]) C mi_X4 tyX4_ok nmX4 0 0 rfl rfl rfl 6 (by decide) mt_222 rfl rfl rfl rfl rfl (Nat.le_of_ble_eq_true rfl) dX4_init_58 rfl ?_
  refine g_getsN C (fun _ _ _ h => h.2.2.1.1) (fun _ h => h.2.2.2.1) rfl dX4_init_61 ?_
  refine g_iconst (v := (0 : Int32)) C dX4_init_64 (by decide) ?_
  refine g_aload_n C dX4_init_65 rfl 0 rfl ?_
  refine g_get (Cl := RX4) (T := TX4) (N := 18) C mi_X4 0 rfl (List.mem_of_getElem? (i := 0) rfl) rfl 0 (by decide) mt_210 rfl rfl dX4_init_66 ?_
  refine g_iconst (v := (0 : Int32)) C dX4_init_69 (by decide) ?_
  refine g_bipush (v := (7 : Int32)) C dX4_init_70 (by decide) ?_
  refine g_copyx (N := 7) (f := fun j => lstF.getD j 0) (Y2 := [[(q, .inr (4, [.ref q1, .ref q2, .ref q3, .ref q4, .ref q5, .ref q6, .ref fr, .int 0, .int 0, .int (0 : Int32), .int 0, .int 0, .int 0, .int 0, .int 0, .int 0, .int 0, .int 0]))], [(q1, .inl (E.2.1.1, 7, .inl (va_cpy (fun j => lstF.getD j 0) (fun _ => 0) (Int32.toNatClampNeg (0 : Int32)) (Int32.toNatClampNeg (0 : Int32)) (Int32.toNatClampNeg (7 : Int32)))))], [(q2, .inl (E.2.1.1, 20, .inl (fun _ => 0)))], [(q3, .inl (E.2.1.1, 20, .inl (fun _ => 0)))], [(q4, .inl (E.2.1.1, 20, .inl (fun _ => 0)))], [(q5, .inl (E.2.1.1, 4, .inl (fun _ => 0)))], [(q6, .inl (E.2.1.1, 30, .inl (fun _ => 0)))]]) C (fun _ _ _ h => h.2.2.1.2) mt_207 mt_209 mt_208 mt_11 1 0 rfl rfl (by decide) (by decide) (by decide) (by decide) (by decide) (Nat.le_of_ble_eq_true rfl) (Nat.le_of_ble_eq_true rfl) dX4_init_72 rfl ?_
  refine g_cut (Y2 := [sc E (fun i => [q, q1, q2, q3, q4, q5, q6].getD i 0) (stI fr)]) (List.Perm.of_eq rfl) ?_
  exact g_ret C K dX4_init_75 (Nat.le_of_ble_eq_true rfl) (Nat.le_of_ble_eq_true rfl) ⟨rfl, (fun i => [q, q1, q2, q3, q4, q5, q6].getD i 0), rfl, rfl⟩
