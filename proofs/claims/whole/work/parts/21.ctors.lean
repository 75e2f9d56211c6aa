abbrev rm_X3_init : Room := { frames := 1, cells := 4, slots := 240, locals := 12 }
set_option maxRecDepth 100000 in
theorem k_X3_init : CFi yX3_init cX3_init 1 0 := ⟨mt_123, mt_8, mt_124, rfl, ⟨by decide +kernel, by decide +kernel, by decide +kernel⟩⟩
set_option maxHeartbeats 4000000 in
set_option maxRecDepth 100000 in
theorem c_X3_init {E : Ev} {q : Nat} : ∀ l, MG l yX3_init cX3_init 1 none rm_X3_init E [.ref q] [[(q, .inr (3, [.null, .null, .null, .null, .int 0, .int 0]))]] (fun v Y => v = none ∧ ∃ a : Nat → Nat, a 0 = q ∧ Y = [ru E (a 0) a ((fun _ => 0), (fun _ => 0), (fun _ => 0), (fun _ => 0), 0, 0)]) := by
  refine MG.mk (own := RX3) (lv0 := [(0, .ref q)]) (by decide) rfl (Nat.le_of_ble_eq_true rfl) rfl (fun X C K I => ?_)
  refine g_aload_n C dX3_init_0 rfl 0 rfl ?_
  refine g_objInit C mt_125 mt_22 mt_23 (Nat.le_of_ble_eq_true rfl) (Nat.le_of_ble_eq_true rfl) dX3_init_1 ?_
  refine g_aload_n C dX3_init_4 rfl 0 rfl ?_
  refine g_bipush (v := (60 : Int32)) C dX3_init_5 (by decide) ?_
  refine g_newC (N := 60) C mt_39 (by decide) (by decide) (by decide) (Nat.le_of_ble_eq_true rfl) (Nat.le_of_ble_eq_true rfl) dX3_init_7 (fun q1 => ?_)
  show G E X 1 [[(q, .inr (3, [.null, .null, .null, .null, .int 0, .int 0]))], [(q1, .inl (E.2.1.2.1, 60, .inl (fun _ => 0)))]] 1 60 [(0, .ref q)] [.ref q1, .ref q] 9
  refine g_putF (Cl := RX3) (T := TX3) (N := 6) (Y2 := [[(q, .inr (3, [.ref q1, .null, .null, .null, .int 0, .int 0]))], [(q1, .inl (E.2.1.2.1, 60, .inl (fun _ => 0)))]]) C (I rfl) mi_X3 tyX3_ok nmX3 0 0 rfl rfl rfl 0 (by decide) mt_126 rfl rfl rfl rfl rfl rfl (Nat.le_of_ble_eq_true rfl) dX3_init_9 rfl ?_
  refine g_aload_n C dX3_init_12 rfl 0 rfl ?_
  refine g_bipush (v := (60 : Int32)) C dX3_init_13 (by decide) ?_
  refine g_newI (N := 60) C mt_59 (by decide) (by decide) (by decide) (Nat.le_of_ble_eq_true rfl) (Nat.le_of_ble_eq_true rfl) dX3_init_15 (fun q2 => ?_)
  show G E X 1 [[(q, .inr (3, [.ref q1, .null, .null, .null, .int 0, .int 0]))], [(q1, .inl (E.2.1.2.1, 60, .inl (fun _ => 0)))], [(q2, .inl (E.2.1.1, 60, .inl (fun _ => 0)))]] 2 120 [(0, .ref q)] [.ref q2, .ref q] 17
  refine g_putF (Cl := RX3) (T := TX3) (N := 6) (Y2 := [[(q, .inr (3, [.ref q1, .ref q2, .null, .null, .int 0, .int 0]))], [(q1, .inl (E.2.1.2.1, 60, .inl (fun _ => 0)))], [(q2, .inl (E.2.1.1, 60, .inl (fun _ => 0)))]]) C (I rfl) mi_X3 tyX3_ok nmX3 0 0 rfl rfl rfl 1 (by decide) mt_127 rfl rfl rfl rfl rfl rfl (Nat.le_of_ble_eq_true rfl) dX3_init_17 rfl ?_
  refine g_aload_n C dX3_init_20 rfl 0 rfl ?_
  refine g_bipush (v := (60 : Int32)) C dX3_init_21 (by decide) ?_
  refine g_newI (N := 60) C mt_59 (by decide) (by decide) (by decide) (Nat.le_of_ble_eq_true rfl) (Nat.le_of_ble_eq_true rfl) dX3_init_23 (fun q3 => ?_)
  show G E X 1 [[(q, .inr (3, [.ref q1, .ref q2, .null, .null, .int 0, .int 0]))], [(q1, .inl (E.2.1.2.1, 60, .inl (fun _ => 0)))], [(q2, .inl (E.2.1.1, 60, .inl (fun _ => 0)))], [(q3, .inl (E.2.1.1, 60, .inl (fun _ => 0)))]] 3 180 [(0, .ref q)] [.ref q3, .ref q] 25
  refine g_putF (Cl := RX3) (T := TX3) (N := 6) (Y2 := [[(q, .inr (3, [.ref q1, .ref q2, .ref q3, .null, .int 0, .int 0]))], [(q1, .inl (E.2.1.2.1, 60, .inl (fun _ => 0)))], [(q2, .inl (E.2.1.1, 60, .inl (fun _ => 0)))], [(q3, .inl (E.2.1.1, 60, .inl (fun _ => 0)))]]) C (I rfl) mi_X3 tyX3_ok nmX3 0 0 rfl rfl rfl 2 (by decide) mt_128 rfl rfl rfl rfl rfl rfl (Nat.le_of_ble_eq_true rfl) dX3_init_25 rfl ?_
  refine g_aload_n C dX3_init_28 rfl 0 rfl ?_
  refine g_bipush (v := (60 : Int32)) C dX3_init_29 (by decide) ?_
  refine g_newI (N := 60) C mt_59 (by decide) (by decide) (by decide) (Nat.le_of_ble_eq_true rfl) (Nat.le_of_ble_eq_true rfl) dX3_init_31 (fun q4 => ?_)
  show G E X 1 [[(q, .inr (3, [.ref q1, .ref q2, .ref q3, .null, .int 0, .int 0]))], [(q1, .inl (E.2.1.2.1, 60, .inl (fun _ => 0)))], [(q2, .inl (E.2.1.1, 60, .inl (fun _ => 0)))], [(q3, .inl (E.2.1.1, 60, .inl (fun _ => 0)))], [(q4, .inl (E.2.1.1, 60, .inl (fun _ => 0)))]] 4 240 [(0, .ref q)] [.ref q4, .ref q] 33
  refine g_putF (Cl := RX3) (T := TX3) (N := 6) (Y2 := [[(q, .inr (3, [.ref q1, .ref q2, .ref q3, .ref q4, .int 0, .int 0]))], [(q1, .inl (E.2.1.2.1, 60, .inl (fun _ => 0)))], [(q2, .inl (E.2.1.1, 60, .inl (fun _ => 0)))], [(q3, .inl (E.2.1.1, 60, .inl (fun _ => 0)))], [(q4, .inl (E.2.1.1, 60, .inl (fun _ => 0)))]]) C (I rfl) mi_X3 tyX3_ok nmX3 0 0 rfl rfl rfl 3 (by decide) mt_129 rfl rfl rfl rfl rfl rfl (Nat.le_of_ble_eq_true rfl) dX3_init_33 rfl ?_
  refine g_cut (Y2 := [ru E ((fun i => [q, q1, q2, q3, q4].getD i 0) 0) (fun i => [q, q1, q2, q3, q4].getD i 0) ((fun _ => 0), (fun _ => 0), (fun _ => 0), (fun _ => 0), 0, 0)]) (List.Perm.of_eq rfl) ?_
  exact g_ret C K dX3_init_36 (Nat.le_of_ble_eq_true rfl) (Nat.le_of_ble_eq_true rfl) ⟨rfl, (fun i => [q, q1, q2, q3, q4].getD i 0), rfl, rfl⟩
abbrev rm_X1_init : Room := { frames := 1, cells := 1, slots := 60, locals := 12 }
set_option maxRecDepth 100000 in
theorem k_X1_init : CFi yX1_init cX1_init 1 0 := ⟨mt_27, mt_2, mt_28, rfl, ⟨by decide +kernel, by decide +kernel, by decide +kernel⟩⟩
set_option maxHeartbeats 4000000 in
set_option maxRecDepth 100000 in
theorem c_X1_init {E : Ev} {q : Nat} : ∀ l, MG l yX1_init cX1_init 1 none rm_X1_init E [.ref q] [[(q, .inr (1, [.null, .int 0]))]] (fun v Y => v = none ∧ ∃ a : Nat → Nat, a 0 = q ∧ Y = [pd E a ((fun _ => 0), 0)]) := by
  refine MG.mk (own := RX1) (lv0 := [(0, .ref q)]) (by decide) rfl (Nat.le_of_ble_eq_true rfl) rfl (fun X C K I => ?_)
  refine g_aload_n C dX1_init_0 rfl 0 rfl ?_
  refine g_objInit C mt_29 mt_22 mt_23 (Nat.le_of_ble_eq_true rfl) (Nat.le_of_ble_eq_true rfl) dX1_init_1 ?_
  refine g_aload_n C dX1_init_4 rfl 0 rfl ?_
  refine g_bipush (v := (60 : Int32)) C dX1_init_5 (by decide) ?_
  refine g_newC (N := 60) C mt_39 (by decide) (by decide) (by decide) (Nat.le_of_ble_eq_true rfl) (Nat.le_of_ble_eq_true rfl) dX1_init_7 (fun q1 => ?_)
  show G E X 1 [[(q, .inr (1, [.null, .int 0]))], [(q1, .inl (E.2.1.2.1, 60, .inl (fun _ => 0)))]] 1 60 [(0, .ref q)] [.ref q1, .ref q] 9
  refine g_putF (Cl := RX1) (T := TX1) (N := 2) (Y2 := [[(q, .inr (1, [.ref q1, .int 0]))], [(q1, .inl (E.2.1.2.1, 60, .inl (fun _ => 0)))]]) C (I rfl) mi_X1 tyX1_ok nmX1 0 0 rfl rfl rfl 0 (by decide) mt_30 rfl rfl rfl rfl rfl rfl (Nat.le_of_ble_eq_true rfl) dX1_init_9 rfl ?_
  refine g_cut (Y2 := [pd E (fun i => [q, q1].getD i 0) ((fun _ => 0), 0)]) (List.Perm.of_eq rfl) ?_
  exact g_ret C K dX1_init_12 (Nat.le_of_ble_eq_true rfl) (Nat.le_of_ble_eq_true rfl) ⟨rfl, (fun i => [q, q1].getD i 0), rfl, rfl⟩
abbrev rm_X2_init : Room := { frames := 1, cells := 2, slots := 120, locals := 12 }
set_option maxRecDepth 100000 in
theorem k_X2_init : CFi yX2_init cX2_init 1 0 := ⟨mt_43, mt_3, mt_44, rfl, ⟨by decide +kernel, by decide +kernel, by decide +kernel⟩⟩
set_option maxHeartbeats 4000000 in
set_option maxRecDepth 100000 in
theorem c_X2_init {E : Ev} {q : Nat} : ∀ l, MG l yX2_init cX2_init 1 none rm_X2_init E [.ref q] [[(q, .inr (2, [.null, .null, .int 0, .int 0]))]] (fun v Y => v = none ∧ ∃ a : Nat → Nat, a 0 = q ∧ Y = [rd E a ((fun _ => 0), (fun _ => 0), 0, 0)]) := by
  refine MG.mk (own := RX2) (lv0 := [(0, .ref q)]) (by decide) rfl (Nat.le_of_ble_eq_true rfl) rfl (fun X C K I => ?_)
  refine g_aload_n C dX2_init_0 rfl 0 rfl ?_
  refine g_objInit C mt_45 mt_22 mt_23 (Nat.le_of_ble_eq_true rfl) (Nat.le_of_ble_eq_true rfl) dX2_init_1 ?_
  refine g_aload_n C dX2_init_4 rfl 0 rfl ?_
  refine g_bipush (v := (60 : Int32)) C dX2_init_5 (by decide) ?_
  refine g_newC (N := 60) C mt_39 (by decide) (by decide) (by decide) (Nat.le_of_ble_eq_true rfl) (Nat.le_of_ble_eq_true rfl) dX2_init_7 (fun q1 => ?_)
  show G E X 1 [[(q, .inr (2, [.null, .null, .int 0, .int 0]))], [(q1, .inl (E.2.1.2.1, 60, .inl (fun _ => 0)))]] 1 60 [(0, .ref q)] [.ref q1, .ref q] 9
  refine g_putF (Cl := RX2) (T := TX2) (N := 4) (Y2 := [[(q, .inr (2, [.ref q1, .null, .int 0, .int 0]))], [(q1, .inl (E.2.1.2.1, 60, .inl (fun _ => 0)))]]) C (I rfl) mi_X2 tyX2_ok nmX2 0 0 rfl rfl rfl 0 (by decide) mt_46 rfl rfl rfl rfl rfl rfl (Nat.le_of_ble_eq_true rfl) dX2_init_9 rfl ?_
  refine g_aload_n C dX2_init_12 rfl 0 rfl ?_
  refine g_bipush (v := (60 : Int32)) C dX2_init_13 (by decide) ?_
  refine g_newI (N := 60) C mt_59 (by decide) (by decide) (by decide) (Nat.le_of_ble_eq_true rfl) (Nat.le_of_ble_eq_true rfl) dX2_init_15 (fun q2 => ?_)
  show G E X 1 [[(q, .inr (2, [.ref q1, .null, .int 0, .int 0]))], [(q1, .inl (E.2.1.2.1, 60, .inl (fun _ => 0)))], [(q2, .inl (E.2.1.1, 60, .inl (fun _ => 0)))]] 2 120 [(0, .ref q)] [.ref q2, .ref q] 17
  refine g_putF (Cl := RX2) (T := TX2) (N := 4) (Y2 := [[(q, .inr (2, [.ref q1, .ref q2, .int 0, .int 0]))], [(q1, .inl (E.2.1.2.1, 60, .inl (fun _ => 0)))], [(q2, .inl (E.2.1.1, 60, .inl (fun _ => 0)))]]) C (I rfl) mi_X2 tyX2_ok nmX2 0 0 rfl rfl rfl 1 (by decide) mt_47 rfl rfl rfl rfl rfl rfl (Nat.le_of_ble_eq_true rfl) dX2_init_17 rfl ?_
  refine g_cut (Y2 := [rd E (fun i => [q, q1, q2].getD i 0) ((fun _ => 0), (fun _ => 0), 0, 0)]) (List.Perm.of_eq rfl) ?_
  exact g_ret C K dX2_init_20 (Nat.le_of_ble_eq_true rfl) (Nat.le_of_ble_eq_true rfl) ⟨rfl, (fun i => [q, q1, q2].getD i 0), rfl, rfl⟩
abbrev stI (fr : Nat) : St := ((va_cpy (fun j => lstF.getD j 0) (fun _ => 0) (Int32.toNatClampNeg (0 : Int32)) (Int32.toNatClampNeg (0 : Int32)) (Int32.toNatClampNeg (7 : Int32))), (fun _ => 0), (fun _ => 0), (fun _ => 0), (fun _ => 0), (fun _ => 0), fr, 0, 0, (0 : Int32), 0, 0, 0, 0, 0, 0, 0, 0)
abbrev rm_X4_init : Room := { frames := 1, cells := 6, slots := 101, locals := 20 }
set_option maxRecDepth 100000 in
theorem k_X4_init : CFi yX4_init cX4_init 2 1 := ⟨mt_203, mt_10, mt_204, rfl, ⟨by decide +kernel, by decide +kernel, by decide +kernel⟩⟩
set_option maxHeartbeats 4000000 in
set_option maxRecDepth 100000 in
theorem c_X4_init {E : Ev} {q : Nat} {fr : Nat} : ∀ l, MG l yX4_init cX4_init 2 none rm_X4_init E [.ref q, .ref fr] [[(q, .inr (4, [.null, .null, .null, .null, .null, .null, .null, .int 0, .int 0, .int 0, .int 0, .int 0, .int 0, .int 0, .int 0, .int 0, .int 0, .int 0]))]] (fun v Y => v = none ∧ ∃ a : Nat → Nat, a 0 = q ∧ Y = [sc E a (stI fr)]) := by
  refine MG.mk (own := RX4) (lv0 := [(0, .ref q), (1, .ref fr)]) (by decide) rfl (Nat.le_of_ble_eq_true rfl) rfl (fun X C K I => ?_)
  refine g_aload_n C dX4_init_0 rfl 0 rfl ?_
  refine g_objInit C mt_205 mt_22 mt_23 (Nat.le_of_ble_eq_true rfl) (Nat.le_of_ble_eq_true rfl) dX4_init_1 ?_
  refine g_aload_n C dX4_init_4 rfl 0 rfl ?_
  refine g_bipush (v := (7 : Int32)) C dX4_init_5 (by decide) ?_
  refine g_newI (N := 7) C mt_59 (by decide) (by decide) (by decide) (Nat.le_of_ble_eq_true rfl) (Nat.le_of_ble_eq_true rfl) dX4_init_7 (fun q1 => ?_)
  show G E X 2 [[(q, .inr (4, [.null, .null, .null, .null, .null, .null, .null, .int 0, .int 0, .int 0, .int 0, .int 0, .int 0, .int 0, .int 0, .int 0, .int 0, .int 0]))], [(q1, .inl (E.2.1.1, 7, .inl (fun _ => 0)))]] 1 7 [(0, .ref q), (1, .ref fr)] [.ref q1, .ref q] 9
  refine g_putF (Cl := RX4) (T := TX4) (N := 18) (Y2 := [[(q, .inr (4, [.ref q1, .null, .null, .null, .null, .null, .null, .int 0, .int 0, .int 0, .int 0, .int 0, .int 0, .int 0, .int 0, .int 0, .int 0, .int 0]))], [(q1, .inl (E.2.1.1, 7, .inl (fun _ => 0)))]]) C (I rfl) mi_X4 tyX4_ok nmX4 0 0 rfl rfl rfl 0 (by decide) mt_211 rfl rfl rfl rfl rfl rfl (Nat.le_of_ble_eq_true rfl) dX4_init_9 rfl ?_
  refine g_aload_n C dX4_init_12 rfl 0 rfl ?_
  refine g_bipush (v := (20 : Int32)) C dX4_init_13 (by decide) ?_
  refine g_newI (N := 20) C mt_59 (by decide) (by decide) (by decide) (Nat.le_of_ble_eq_true rfl) (Nat.le_of_ble_eq_true rfl) dX4_init_15 (fun q2 => ?_)
  show G E X 2 [[(q, .inr (4, [.ref q1, .null, .null, .null, .null, .null, .null, .int 0, .int 0, .int 0, .int 0, .int 0, .int 0, .int 0, .int 0, .int 0, .int 0, .int 0]))], [(q1, .inl (E.2.1.1, 7, .inl (fun _ => 0)))], [(q2, .inl (E.2.1.1, 20, .inl (fun _ => 0)))]] 2 27 [(0, .ref q), (1, .ref fr)] [.ref q2, .ref q] 17
  refine g_putF (Cl := RX4) (T := TX4) (N := 18) (Y2 := [[(q, .inr (4, [.ref q1, .ref q2, .null, .null, .null, .null, .null, .int 0, .int 0, .int 0, .int 0, .int 0, .int 0, .int 0, .int 0, .int 0, .int 0, .int 0]))], [(q1, .inl (E.2.1.1, 7, .inl (fun _ => 0)))], [(q2, .inl (E.2.1.1, 20, .inl (fun _ => 0)))]]) C (I rfl) mi_X4 tyX4_ok nmX4 0 0 rfl rfl rfl 1 (by decide) mt_213 rfl rfl rfl rfl rfl rfl (Nat.le_of_ble_eq_true rfl) dX4_init_17 rfl ?_
  refine g_aload_n C dX4_init_20 rfl 0 rfl ?_
  refine g_bipush (v := (20 : Int32)) C dX4_init_21 (by decide) ?_
  refine g_newI (N := 20) C mt_59 (by decide) (by decide) (by decide) (Nat.le_of_ble_eq_true rfl) (Nat.le_of_ble_eq_true rfl) dX4_init_23 (fun q3 => ?_)
  show G E X 2 [[(q, .inr (4, [.ref q1, .ref q2, .null, .null, .null, .null, .null, .int 0, .int 0, .int 0, .int 0, .int 0, .int 0, .int 0, .int 0, .int 0, .int 0, .int 0]))], [(q1, .inl (E.2.1.1, 7, .inl (fun _ => 0)))], [(q2, .inl (E.2.1.1, 20, .inl (fun _ => 0)))], [(q3, .inl (E.2.1.1, 20, .inl (fun _ => 0)))]] 3 47 [(0, .ref q), (1, .ref fr)] [.ref q3, .ref q] 25
  refine g_putF (Cl := RX4) (T := TX4) (N := 18) (Y2 := [[(q, .inr (4, [.ref q1, .ref q2, .ref q3, .null, .null, .null, .null, .int 0, .int 0, .int 0, .int 0, .int 0, .int 0, .int 0, .int 0, .int 0, .int 0, .int 0]))], [(q1, .inl (E.2.1.1, 7, .inl (fun _ => 0)))], [(q2, .inl (E.2.1.1, 20, .inl (fun _ => 0)))], [(q3, .inl (E.2.1.1, 20, .inl (fun _ => 0)))]]) C (I rfl) mi_X4 tyX4_ok nmX4 0 0 rfl rfl rfl 2 (by decide) mt_215 rfl rfl rfl rfl rfl rfl (Nat.le_of_ble_eq_true rfl) dX4_init_25 rfl ?_
  refine g_aload_n C dX4_init_28 rfl 0 rfl ?_
  refine g_bipush (v := (20 : Int32)) C dX4_init_29 (by decide) ?_
  refine g_newI (N := 20) C mt_59 (by decide) (by decide) (by decide) (Nat.le_of_ble_eq_true rfl) (Nat.le_of_ble_eq_true rfl) dX4_init_31 (fun q4 => ?_)
  show G E X 2 [[(q, .inr (4, [.ref q1, .ref q2, .ref q3, .null, .null, .null, .null, .int 0, .int 0, .int 0, .int 0, .int 0, .int 0, .int 0, .int 0, .int 0, .int 0, .int 0]))], [(q1, .inl (E.2.1.1, 7, .inl (fun _ => 0)))], [(q2, .inl (E.2.1.1, 20, .inl (fun _ => 0)))], [(q3, .inl (E.2.1.1, 20, .inl (fun _ => 0)))], [(q4, .inl (E.2.1.1, 20, .inl (fun _ => 0)))]] 4 67 [(0, .ref q), (1, .ref fr)] [.ref q4, .ref q] 33
  refine g_putF (Cl := RX4) (T := TX4) (N := 18) (Y2 := [[(q, .inr (4, [.ref q1, .ref q2, .ref q3, .ref q4, .null, .null, .null, .int 0, .int 0, .int 0, .int 0, .int 0, .int 0, .int 0, .int 0, .int 0, .int 0, .int 0]))], [(q1, .inl (E.2.1.1, 7, .inl (fun _ => 0)))], [(q2, .inl (E.2.1.1, 20, .inl (fun _ => 0)))], [(q3, .inl (E.2.1.1, 20, .inl (fun _ => 0)))], [(q4, .inl (E.2.1.1, 20, .inl (fun _ => 0)))]]) C (I rfl) mi_X4 tyX4_ok nmX4 0 0 rfl rfl rfl 3 (by decide) mt_217 rfl rfl rfl rfl rfl rfl (Nat.le_of_ble_eq_true rfl) dX4_init_33 rfl ?_
  refine g_aload_n C dX4_init_36 rfl 0 rfl ?_
  refine g_iconst (v := (4 : Int32)) C dX4_init_37 (by decide) ?_
  refine g_newI (N := 4) C mt_59 (by decide) (by decide) (by decide) (Nat.le_of_ble_eq_true rfl) (Nat.le_of_ble_eq_true rfl) dX4_init_38 (fun q5 => ?_)
  show G E X 2 [[(q, .inr (4, [.ref q1, .ref q2, .ref q3, .ref q4, .null, .null, .null, .int 0, .int 0, .int 0, .int 0, .int 0, .int 0, .int 0, .int 0, .int 0, .int 0, .int 0]))], [(q1, .inl (E.2.1.1, 7, .inl (fun _ => 0)))], [(q2, .inl (E.2.1.1, 20, .inl (fun _ => 0)))], [(q3, .inl (E.2.1.1, 20, .inl (fun _ => 0)))], [(q4, .inl (E.2.1.1, 20, .inl (fun _ => 0)))], [(q5, .inl (E.2.1.1, 4, .inl (fun _ => 0)))]] 5 71 [(0, .ref q), (1, .ref fr)] [.ref q5, .ref q] 40
  refine g_putF (Cl := RX4) (T := TX4) (N := 18) (Y2 := [[(q, .inr (4, [.ref q1, .ref q2, .ref q3, .ref q4, .ref q5, .null, .null, .int 0, .int 0, .int 0, .int 0, .int 0, .int 0, .int 0, .int 0, .int 0, .int 0, .int 0]))], [(q1, .inl (E.2.1.1, 7, .inl (fun _ => 0)))], [(q2, .inl (E.2.1.1, 20, .inl (fun _ => 0)))], [(q3, .inl (E.2.1.1, 20, .inl (fun _ => 0)))], [(q4, .inl (E.2.1.1, 20, .inl (fun _ => 0)))], [(q5, .inl (E.2.1.1, 4, .inl (fun _ => 0)))]]) C (I rfl) mi_X4 tyX4_ok nmX4 0 0 rfl rfl rfl 4 (by decide) mt_219 rfl rfl rfl rfl rfl rfl (Nat.le_of_ble_eq_true rfl) dX4_init_40 rfl ?_
  refine g_aload_n C dX4_init_43 rfl 0 rfl ?_
  refine g_bipush (v := (30 : Int32)) C dX4_init_44 (by decide) ?_
  refine g_newI (N := 30) C mt_59 (by decide) (by decide) (by decide) (Nat.le_of_ble_eq_true rfl) (Nat.le_of_ble_eq_true rfl) dX4_init_46 (fun q6 => ?_)
  show G E X 2 [[(q, .inr (4, [.ref q1, .ref q2, .ref q3, .ref q4, .ref q5, .null, .null, .int 0, .int 0, .int 0, .int 0, .int 0, .int 0, .int 0, .int 0, .int 0, .int 0, .int 0]))], [(q1, .inl (E.2.1.1, 7, .inl (fun _ => 0)))], [(q2, .inl (E.2.1.1, 20, .inl (fun _ => 0)))], [(q3, .inl (E.2.1.1, 20, .inl (fun _ => 0)))], [(q4, .inl (E.2.1.1, 20, .inl (fun _ => 0)))], [(q5, .inl (E.2.1.1, 4, .inl (fun _ => 0)))], [(q6, .inl (E.2.1.1, 30, .inl (fun _ => 0)))]] 6 101 [(0, .ref q), (1, .ref fr)] [.ref q6, .ref q] 48
  refine g_putF (Cl := RX4) (T := TX4) (N := 18) (Y2 := [[(q, .inr (4, [.ref q1, .ref q2, .ref q3, .ref q4, .ref q5, .ref q6, .null, .int 0, .int 0, .int 0, .int 0, .int 0, .int 0, .int 0, .int 0, .int 0, .int 0, .int 0]))], [(q1, .inl (E.2.1.1, 7, .inl (fun _ => 0)))], [(q2, .inl (E.2.1.1, 20, .inl (fun _ => 0)))], [(q3, .inl (E.2.1.1, 20, .inl (fun _ => 0)))], [(q4, .inl (E.2.1.1, 20, .inl (fun _ => 0)))], [(q5, .inl (E.2.1.1, 4, .inl (fun _ => 0)))], [(q6, .inl (E.2.1.1, 30, .inl (fun _ => 0)))]]) C (I rfl) mi_X4 tyX4_ok nmX4 0 0 rfl rfl rfl 5 (by decide) mt_221 rfl rfl rfl rfl rfl rfl (Nat.le_of_ble_eq_true rfl) dX4_init_48 rfl ?_
  refine g_aload_n C dX4_init_51 rfl 0 rfl ?_
  refine g_iconst (v := (0 : Int32)) C dX4_init_52 (by decide) ?_
  refine g_put (Cl := RX4) (T := TX4) (N := 18) (Y2 := [[(q, .inr (4, [.ref q1, .ref q2, .ref q3, .ref q4, .ref q5, .ref q6, .null, .int 0, .int 0, .int (0 : Int32), .int 0, .int 0, .int 0, .int 0, .int 0, .int 0, .int 0, .int 0]))], [(q1, .inl (E.2.1.1, 7, .inl (fun _ => 0)))], [(q2, .inl (E.2.1.1, 20, .inl (fun _ => 0)))], [(q3, .inl (E.2.1.1, 20, .inl (fun _ => 0)))], [(q4, .inl (E.2.1.1, 20, .inl (fun _ => 0)))], [(q5, .inl (E.2.1.1, 4, .inl (fun _ => 0)))], [(q6, .inl (E.2.1.1, 30, .inl (fun _ => 0)))]]) C mi_X4 tyX4_ok nmX4 0 0 rfl rfl rfl 9 (by decide) mt_229 rfl rfl rfl rfl rfl (Nat.le_of_ble_eq_true rfl) dX4_init_53 rfl ?_
  refine g_aload_n C dX4_init_56 rfl 0 rfl ?_
  refine g_aload_n C dX4_init_57 rfl 1 rfl ?_
  refine g_put (Cl := RX4) (T := TX4) (N := 18) (Y2 := [[(q, .inr (4, [.ref q1, .ref q2, .ref q3, .ref q4, .ref q5, .ref q6, .ref fr, .int 0, .int 0, .int (0 : Int32), .int 0, .int 0, .int 0, .int 0, .int 0, .int 0, .int 0, .int 0]))], [(q1, .inl (E.2.1.1, 7, .inl (fun _ => 0)))], [(q2, .inl (E.2.1.1, 20, .inl (fun _ => 0)))], [(q3, .inl (E.2.1.1, 20, .inl (fun _ => 0)))], [(q4, .inl (E.2.1.1, 20, .inl (fun _ => 0)))], [(q5, .inl (E.2.1.1, 4, .inl (fun _ => 0)))], [(q6, .inl (E.2.1.1, 30, .inl (fun _ => 0)))]]) C mi_X4 tyX4_ok nmX4 0 0 rfl rfl rfl 6 (by decide) mt_223 rfl rfl rfl rfl rfl (Nat.le_of_ble_eq_true rfl) dX4_init_58 rfl ?_
  refine g_getsN C (fun _ _ _ h => h.2.2.1.1) (fun _ h => h.2.2.2.1) rfl dX4_init_61 ?_
  refine g_iconst (v := (0 : Int32)) C dX4_init_64 (by decide) ?_
  refine g_aload_n C dX4_init_65 rfl 0 rfl ?_
  refine g_get (Cl := RX4) (T := TX4) (N := 18) C mi_X4 0 rfl (List.mem_of_getElem? (i := 0) rfl) rfl 0 (by decide) mt_211 rfl rfl dX4_init_66 ?_
  refine g_iconst (v := (0 : Int32)) C dX4_init_69 (by decide) ?_
  refine g_bipush (v := (7 : Int32)) C dX4_init_70 (by decide) ?_
  refine g_copyx (N := 7) (f := fun j => lstF.getD j 0) (Y2 := [[(q, .inr (4, [.ref q1, .ref q2, .ref q3, .ref q4, .ref q5, .ref q6, .ref fr, .int 0, .int 0, .int (0 : Int32), .int 0, .int 0, .int 0, .int 0, .int 0, .int 0, .int 0, .int 0]))], [(q1, .inl (E.2.1.1, 7, .inl (va_cpy (fun j => lstF.getD j 0) (fun _ => 0) (Int32.toNatClampNeg (0 : Int32)) (Int32.toNatClampNeg (0 : Int32)) (Int32.toNatClampNeg (7 : Int32)))))], [(q2, .inl (E.2.1.1, 20, .inl (fun _ => 0)))], [(q3, .inl (E.2.1.1, 20, .inl (fun _ => 0)))], [(q4, .inl (E.2.1.1, 20, .inl (fun _ => 0)))], [(q5, .inl (E.2.1.1, 4, .inl (fun _ => 0)))], [(q6, .inl (E.2.1.1, 30, .inl (fun _ => 0)))]]) C (fun _ _ _ h => h.2.2.1.2) mt_208 mt_210 mt_209 mt_11 1 0 rfl rfl (by decide) (by decide) (by decide) (by decide) (by decide) (Nat.le_of_ble_eq_true rfl) (Nat.le_of_ble_eq_true rfl) dX4_init_72 rfl ?_
  refine g_cut (Y2 := [sc E (fun i => [q, q1, q2, q3, q4, q5, q6].getD i 0) (stI fr)]) (List.Perm.of_eq rfl) ?_
  exact g_ret C K dX4_init_75 (Nat.le_of_ble_eq_true rfl) (Nat.le_of_ble_eq_true rfl) ⟨rfl, (fun i => [q, q1, q2, q3, q4, q5, q6].getD i 0), rfl, rfl⟩
abbrev rm_X6_init : Room := { frames := 1, cells := 10, slots := 2048, locals := 12 }
set_option maxRecDepth 100000 in
theorem k_X6_init : CFi yX6_init cX6_init 2 0 := ⟨mt_586, mt_13, mt_587, rfl, ⟨by decide +kernel, by decide +kernel, by decide +kernel⟩⟩
set_option maxHeartbeats 4000000 in
set_option maxRecDepth 100000 in
theorem c_X6_init {E : Ev} {q : Nat} : ∀ l, MG l yX6_init cX6_init 2 none rm_X6_init E [.ref q] [[(q, .inr (6, [.null, .null, .null, .null, .int 0, .null, .null, .int 0, .null, .null, .null, .int 0, .null, .int 0]))]] (fun v Y => v = none ∧ ∃ a : Nat → Nat, a 0 = q ∧ Y = [md E a ((upd (upd (upd (upd (upd (upd (upd (upd (upd (upd (upd (upd (upd (upd (upd (fun _ => 0) (Int32.toNatClampNeg (0 : Int32)) (50 : Int32)) (Int32.toNatClampNeg (1 : Int32)) (10 : Int32)) (Int32.toNatClampNeg (2 : Int32)) (6 : Int32)) (Int32.toNatClampNeg (3 : Int32)) (20 : Int32)) (Int32.toNatClampNeg (4 : Int32)) (5 : Int32)) (Int32.toNatClampNeg (5 : Int32)) (100 : Int32)) (Int32.toNatClampNeg (6 : Int32)) (800 : Int32)) (Int32.toNatClampNeg (22 : Int32)) (7 : Int32)) (Int32.toNatClampNeg ((23 : Int32) + (0 : Int32))) ((65 : Int32) + ((0 : Int32) / (2 : Int32)))) (Int32.toNatClampNeg ((23 : Int32) + ((0 : Int32) + (1 : Int32)))) (124 : Int32)) (Int32.toNatClampNeg ((23 : Int32) + (((0 : Int32) + (1 : Int32)) + (1 : Int32)))) ((65 : Int32) + ((((0 : Int32) + (1 : Int32)) + (1 : Int32)) / (2 : Int32)))) (Int32.toNatClampNeg ((23 : Int32) + ((((0 : Int32) + (1 : Int32)) + (1 : Int32)) + (1 : Int32)))) (124 : Int32)) (Int32.toNatClampNeg ((23 : Int32) + (((((0 : Int32) + (1 : Int32)) + (1 : Int32)) + (1 : Int32)) + (1 : Int32)))) ((65 : Int32) + ((((((0 : Int32) + (1 : Int32)) + (1 : Int32)) + (1 : Int32)) + (1 : Int32)) / (2 : Int32)))) (Int32.toNatClampNeg ((23 : Int32) + ((((((0 : Int32) + (1 : Int32)) + (1 : Int32)) + (1 : Int32)) + (1 : Int32)) + (1 : Int32)))) (124 : Int32)) (Int32.toNatClampNeg ((23 : Int32) + (((((((0 : Int32) + (1 : Int32)) + (1 : Int32)) + (1 : Int32)) + (1 : Int32)) + (1 : Int32)) + (1 : Int32)))) ((65 : Int32) + ((((((((0 : Int32) + (1 : Int32)) + (1 : Int32)) + (1 : Int32)) + (1 : Int32)) + (1 : Int32)) + (1 : Int32)) / (2 : Int32)))), (fun _ => 0), (fun _ => 0), (fun _ => 0), 0, (fun _ => 0), (fun _ => 0), 0, (fun _ => 0), (fun _ => 0), (fun _ => 0), 0, (fun _ => 0), 0)]) := by
  refine MG.mk (own := RX6) (lv0 := [(0, .ref q)]) (by decide) rfl (Nat.le_of_ble_eq_true rfl) rfl (fun X C K I => ?_)
  refine g_aload_n C dX6_init_0 rfl 0 rfl ?_
  refine g_objInit C mt_588 mt_22 mt_23 (Nat.le_of_ble_eq_true rfl) (Nat.le_of_ble_eq_true rfl) dX6_init_1 ?_
  refine g_aload_n C dX6_init_4 rfl 0 rfl ?_
  refine g_sipush (v := (173 : Int32)) C dX6_init_5 (by decide) ?_
  refine g_newI (N := 173) C mt_59 (by decide) (by decide) (by decide) (Nat.le_of_ble_eq_true rfl) (Nat.le_of_ble_eq_true rfl) dX6_init_8 (fun q1 => ?_)
  show G E X 2 [[(q, .inr (6, [.null, .null, .null, .null, .int 0, .null, .null, .int 0, .null, .null, .null, .int 0, .null, .int 0]))], [(q1, .inl (E.2.1.1, 173, .inl (fun _ => 0)))]] 1 173 [(0, .ref q)] [.ref q1, .ref q] 10
  refine g_putF (Cl := RX6) (T := TX6) (N := 14) (Y2 := [[(q, .inr (6, [.ref q1, .null, .null, .null, .int 0, .null, .null, .int 0, .null, .null, .null, .int 0, .null, .int 0]))], [(q1, .inl (E.2.1.1, 173, .inl (fun _ => 0)))]]) C (I rfl) mi_X6 tyX6_ok nmX6 0 0 rfl rfl rfl 0 (by decide) mt_589 rfl rfl rfl rfl rfl rfl (Nat.le_of_ble_eq_true rfl) dX6_init_10 rfl ?_
  refine g_aload_n C dX6_init_13 rfl 0 rfl ?_
  refine g_sipush (v := (1038 : Int32)) C dX6_init_14 (by decide) ?_
  refine g_newI (N := 1038) C mt_59 (by decide) (by decide) (by decide) (Nat.le_of_ble_eq_true rfl) (Nat.le_of_ble_eq_true rfl) dX6_init_17 (fun q2 => ?_)
  show G E X 2 [[(q, .inr (6, [.ref q1, .null, .null, .null, .int 0, .null, .null, .int 0, .null, .null, .null, .int 0, .null, .int 0]))], [(q1, .inl (E.2.1.1, 173, .inl (fun _ => 0)))], [(q2, .inl (E.2.1.1, 1038, .inl (fun _ => 0)))]] 2 1211 [(0, .ref q)] [.ref q2, .ref q] 19
  refine g_putF (Cl := RX6) (T := TX6) (N := 14) (Y2 := [[(q, .inr (6, [.ref q1, .ref q2, .null, .null, .int 0, .null, .null, .int 0, .null, .null, .null, .int 0, .null, .int 0]))], [(q1, .inl (E.2.1.1, 173, .inl (fun _ => 0)))], [(q2, .inl (E.2.1.1, 1038, .inl (fun _ => 0)))]]) C (I rfl) mi_X6 tyX6_ok nmX6 0 0 rfl rfl rfl 1 (by decide) mt_590 rfl rfl rfl rfl rfl rfl (Nat.le_of_ble_eq_true rfl) dX6_init_19 rfl ?_
  refine g_aload_n C dX6_init_22 rfl 0 rfl ?_
  refine g_sipush (v := (346 : Int32)) C dX6_init_23 (by decide) ?_
  refine g_newI (N := 346) C mt_59 (by decide) (by decide) (by decide) (Nat.le_of_ble_eq_true rfl) (Nat.le_of_ble_eq_true rfl) dX6_init_26 (fun q3 => ?_)
  show G E X 2 [[(q, .inr (6, [.ref q1, .ref q2, .null, .null, .int 0, .null, .null, .int 0, .null, .null, .null, .int 0, .null, .int 0]))], [(q1, .inl (E.2.1.1, 173, .inl (fun _ => 0)))], [(q2, .inl (E.2.1.1, 1038, .inl (fun _ => 0)))], [(q3, .inl (E.2.1.1, 346, .inl (fun _ => 0)))]] 3 1557 [(0, .ref q)] [.ref q3, .ref q] 28
  refine g_putF (Cl := RX6) (T := TX6) (N := 14) (Y2 := [[(q, .inr (6, [.ref q1, .ref q2, .ref q3, .null, .int 0, .null, .null, .int 0, .null, .null, .null, .int 0, .null, .int 0]))], [(q1, .inl (E.2.1.1, 173, .inl (fun _ => 0)))], [(q2, .inl (E.2.1.1, 1038, .inl (fun _ => 0)))], [(q3, .inl (E.2.1.1, 346, .inl (fun _ => 0)))]]) C (I rfl) mi_X6 tyX6_ok nmX6 0 0 rfl rfl rfl 2 (by decide) mt_591 rfl rfl rfl rfl rfl rfl (Nat.le_of_ble_eq_true rfl) dX6_init_28 rfl ?_
  refine g_aload_n C dX6_init_31 rfl 0 rfl ?_
  refine g_iconst (v := (2 : Int32)) C dX6_init_32 (by decide) ?_
  refine g_newZ (N := 2) C mt_147 (by decide) (by decide) (by decide) (Nat.le_of_ble_eq_true rfl) (Nat.le_of_ble_eq_true rfl) dX6_init_33 (fun q4 => ?_)
  show G E X 2 [[(q, .inr (6, [.ref q1, .ref q2, .ref q3, .null, .int 0, .null, .null, .int 0, .null, .null, .null, .int 0, .null, .int 0]))], [(q1, .inl (E.2.1.1, 173, .inl (fun _ => 0)))], [(q2, .inl (E.2.1.1, 1038, .inl (fun _ => 0)))], [(q3, .inl (E.2.1.1, 346, .inl (fun _ => 0)))], [(q4, .inl (E.2.1.2.2.1, 2, .inl (fun _ => 0)))]] 4 1559 [(0, .ref q)] [.ref q4, .ref q] 35
  refine g_putF (Cl := RX6) (T := TX6) (N := 14) (Y2 := [[(q, .inr (6, [.ref q1, .ref q2, .ref q3, .ref q4, .int 0, .null, .null, .int 0, .null, .null, .null, .int 0, .null, .int 0]))], [(q1, .inl (E.2.1.1, 173, .inl (fun _ => 0)))], [(q2, .inl (E.2.1.1, 1038, .inl (fun _ => 0)))], [(q3, .inl (E.2.1.1, 346, .inl (fun _ => 0)))], [(q4, .inl (E.2.1.2.2.1, 2, .inl (fun _ => 0)))]]) C (I rfl) mi_X6 tyX6_ok nmX6 0 0 rfl rfl rfl 3 (by decide) mt_592 rfl rfl rfl rfl rfl rfl (Nat.le_of_ble_eq_true rfl) dX6_init_35 rfl ?_
  refine g_aload_n C dX6_init_38 rfl 0 rfl ?_
  refine g_sipush (v := (173 : Int32)) C dX6_init_39 (by decide) ?_
  refine g_newI (N := 173) C mt_59 (by decide) (by decide) (by decide) (Nat.le_of_ble_eq_true rfl) (Nat.le_of_ble_eq_true rfl) dX6_init_42 (fun q5 => ?_)
  show G E X 2 [[(q, .inr (6, [.ref q1, .ref q2, .ref q3, .ref q4, .int 0, .null, .null, .int 0, .null, .null, .null, .int 0, .null, .int 0]))], [(q1, .inl (E.2.1.1, 173, .inl (fun _ => 0)))], [(q2, .inl (E.2.1.1, 1038, .inl (fun _ => 0)))], [(q3, .inl (E.2.1.1, 346, .inl (fun _ => 0)))], [(q4, .inl (E.2.1.2.2.1, 2, .inl (fun _ => 0)))], [(q5, .inl (E.2.1.1, 173, .inl (fun _ => 0)))]] 5 1732 [(0, .ref q)] [.ref q5, .ref q] 44
  refine g_putF (Cl := RX6) (T := TX6) (N := 14) (Y2 := [[(q, .inr (6, [.ref q1, .ref q2, .ref q3, .ref q4, .int 0, .ref q5, .null, .int 0, .null, .null, .null, .int 0, .null, .int 0]))], [(q1, .inl (E.2.1.1, 173, .inl (fun _ => 0)))], [(q2, .inl (E.2.1.1, 1038, .inl (fun _ => 0)))], [(q3, .inl (E.2.1.1, 346, .inl (fun _ => 0)))], [(q4, .inl (E.2.1.2.2.1, 2, .inl (fun _ => 0)))], [(q5, .inl (E.2.1.1, 173, .inl (fun _ => 0)))]]) C (I rfl) mi_X6 tyX6_ok nmX6 0 0 rfl rfl rfl 5 (by decide) mt_594 rfl rfl rfl rfl rfl rfl (Nat.le_of_ble_eq_true rfl) dX6_init_44 rfl ?_
  refine g_aload_n C dX6_init_47 rfl 0 rfl ?_
  refine g_bipush (v := (60 : Int32)) C dX6_init_48 (by decide) ?_
  refine g_newC (N := 60) C mt_39 (by decide) (by decide) (by decide) (Nat.le_of_ble_eq_true rfl) (Nat.le_of_ble_eq_true rfl) dX6_init_50 (fun q6 => ?_)
  show G E X 2 [[(q, .inr (6, [.ref q1, .ref q2, .ref q3, .ref q4, .int 0, .ref q5, .null, .int 0, .null, .null, .null, .int 0, .null, .int 0]))], [(q1, .inl (E.2.1.1, 173, .inl (fun _ => 0)))], [(q2, .inl (E.2.1.1, 1038, .inl (fun _ => 0)))], [(q3, .inl (E.2.1.1, 346, .inl (fun _ => 0)))], [(q4, .inl (E.2.1.2.2.1, 2, .inl (fun _ => 0)))], [(q5, .inl (E.2.1.1, 173, .inl (fun _ => 0)))], [(q6, .inl (E.2.1.2.1, 60, .inl (fun _ => 0)))]] 6 1792 [(0, .ref q)] [.ref q6, .ref q] 52
  refine g_putF (Cl := RX6) (T := TX6) (N := 14) (Y2 := [[(q, .inr (6, [.ref q1, .ref q2, .ref q3, .ref q4, .int 0, .ref q5, .ref q6, .int 0, .null, .null, .null, .int 0, .null, .int 0]))], [(q1, .inl (E.2.1.1, 173, .inl (fun _ => 0)))], [(q2, .inl (E.2.1.1, 1038, .inl (fun _ => 0)))], [(q3, .inl (E.2.1.1, 346, .inl (fun _ => 0)))], [(q4, .inl (E.2.1.2.2.1, 2, .inl (fun _ => 0)))], [(q5, .inl (E.2.1.1, 173, .inl (fun _ => 0)))], [(q6, .inl (E.2.1.2.1, 60, .inl (fun _ => 0)))]]) C (I rfl) mi_X6 tyX6_ok nmX6 0 0 rfl rfl rfl 6 (by decide) mt_595 rfl rfl rfl rfl rfl rfl (Nat.le_of_ble_eq_true rfl) dX6_init_52 rfl ?_
  refine g_aload_n C dX6_init_55 rfl 0 rfl ?_
  refine g_bipush (v := (64 : Int32)) C dX6_init_56 (by decide) ?_
  refine g_newZ (N := 64) C mt_147 (by decide) (by decide) (by decide) (Nat.le_of_ble_eq_true rfl) (Nat.le_of_ble_eq_true rfl) dX6_init_58 (fun q7 => ?_)
  show G E X 2 [[(q, .inr (6, [.ref q1, .ref q2, .ref q3, .ref q4, .int 0, .ref q5, .ref q6, .int 0, .null, .null, .null, .int 0, .null, .int 0]))], [(q1, .inl (E.2.1.1, 173, .inl (fun _ => 0)))], [(q2, .inl (E.2.1.1, 1038, .inl (fun _ => 0)))], [(q3, .inl (E.2.1.1, 346, .inl (fun _ => 0)))], [(q4, .inl (E.2.1.2.2.1, 2, .inl (fun _ => 0)))], [(q5, .inl (E.2.1.1, 173, .inl (fun _ => 0)))], [(q6, .inl (E.2.1.2.1, 60, .inl (fun _ => 0)))], [(q7, .inl (E.2.1.2.2.1, 64, .inl (fun _ => 0)))]] 7 1856 [(0, .ref q)] [.ref q7, .ref q] 60
  refine g_putF (Cl := RX6) (T := TX6) (N := 14) (Y2 := [[(q, .inr (6, [.ref q1, .ref q2, .ref q3, .ref q4, .int 0, .ref q5, .ref q6, .int 0, .ref q7, .null, .null, .int 0, .null, .int 0]))], [(q1, .inl (E.2.1.1, 173, .inl (fun _ => 0)))], [(q2, .inl (E.2.1.1, 1038, .inl (fun _ => 0)))], [(q3, .inl (E.2.1.1, 346, .inl (fun _ => 0)))], [(q4, .inl (E.2.1.2.2.1, 2, .inl (fun _ => 0)))], [(q5, .inl (E.2.1.1, 173, .inl (fun _ => 0)))], [(q6, .inl (E.2.1.2.1, 60, .inl (fun _ => 0)))], [(q7, .inl (E.2.1.2.2.1, 64, .inl (fun _ => 0)))]]) C (I rfl) mi_X6 tyX6_ok nmX6 0 0 rfl rfl rfl 8 (by decide) mt_597 rfl rfl rfl rfl rfl rfl (Nat.le_of_ble_eq_true rfl) dX6_init_60 rfl ?_
  refine g_aload_n C dX6_init_63 rfl 0 rfl ?_
  refine g_bipush (v := (64 : Int32)) C dX6_init_64 (by decide) ?_
  refine g_newI (N := 64) C mt_59 (by decide) (by decide) (by decide) (Nat.le_of_ble_eq_true rfl) (Nat.le_of_ble_eq_true rfl) dX6_init_66 (fun q8 => ?_)
  show G E X 2 [[(q, .inr (6, [.ref q1, .ref q2, .ref q3, .ref q4, .int 0, .ref q5, .ref q6, .int 0, .ref q7, .null, .null, .int 0, .null, .int 0]))], [(q1, .inl (E.2.1.1, 173, .inl (fun _ => 0)))], [(q2, .inl (E.2.1.1, 1038, .inl (fun _ => 0)))], [(q3, .inl (E.2.1.1, 346, .inl (fun _ => 0)))], [(q4, .inl (E.2.1.2.2.1, 2, .inl (fun _ => 0)))], [(q5, .inl (E.2.1.1, 173, .inl (fun _ => 0)))], [(q6, .inl (E.2.1.2.1, 60, .inl (fun _ => 0)))], [(q7, .inl (E.2.1.2.2.1, 64, .inl (fun _ => 0)))], [(q8, .inl (E.2.1.1, 64, .inl (fun _ => 0)))]] 8 1920 [(0, .ref q)] [.ref q8, .ref q] 68
  refine g_putF (Cl := RX6) (T := TX6) (N := 14) (Y2 := [[(q, .inr (6, [.ref q1, .ref q2, .ref q3, .ref q4, .int 0, .ref q5, .ref q6, .int 0, .ref q7, .ref q8, .null, .int 0, .null, .int 0]))], [(q1, .inl (E.2.1.1, 173, .inl (fun _ => 0)))], [(q2, .inl (E.2.1.1, 1038, .inl (fun _ => 0)))], [(q3, .inl (E.2.1.1, 346, .inl (fun _ => 0)))], [(q4, .inl (E.2.1.2.2.1, 2, .inl (fun _ => 0)))], [(q5, .inl (E.2.1.1, 173, .inl (fun _ => 0)))], [(q6, .inl (E.2.1.2.1, 60, .inl (fun _ => 0)))], [(q7, .inl (E.2.1.2.2.1, 64, .inl (fun _ => 0)))], [(q8, .inl (E.2.1.1, 64, .inl (fun _ => 0)))]]) C (I rfl) mi_X6 tyX6_ok nmX6 0 0 rfl rfl rfl 9 (by decide) mt_598 rfl rfl rfl rfl rfl rfl (Nat.le_of_ble_eq_true rfl) dX6_init_68 rfl ?_
  refine g_aload_n C dX6_init_71 rfl 0 rfl ?_
  refine g_bipush (v := (64 : Int32)) C dX6_init_72 (by decide) ?_
  refine g_newI (N := 64) C mt_59 (by decide) (by decide) (by decide) (Nat.le_of_ble_eq_true rfl) (Nat.le_of_ble_eq_true rfl) dX6_init_74 (fun q9 => ?_)
  show G E X 2 [[(q, .inr (6, [.ref q1, .ref q2, .ref q3, .ref q4, .int 0, .ref q5, .ref q6, .int 0, .ref q7, .ref q8, .null, .int 0, .null, .int 0]))], [(q1, .inl (E.2.1.1, 173, .inl (fun _ => 0)))], [(q2, .inl (E.2.1.1, 1038, .inl (fun _ => 0)))], [(q3, .inl (E.2.1.1, 346, .inl (fun _ => 0)))], [(q4, .inl (E.2.1.2.2.1, 2, .inl (fun _ => 0)))], [(q5, .inl (E.2.1.1, 173, .inl (fun _ => 0)))], [(q6, .inl (E.2.1.2.1, 60, .inl (fun _ => 0)))], [(q7, .inl (E.2.1.2.2.1, 64, .inl (fun _ => 0)))], [(q8, .inl (E.2.1.1, 64, .inl (fun _ => 0)))], [(q9, .inl (E.2.1.1, 64, .inl (fun _ => 0)))]] 9 1984 [(0, .ref q)] [.ref q9, .ref q] 76
  refine g_putF (Cl := RX6) (T := TX6) (N := 14) (Y2 := [[(q, .inr (6, [.ref q1, .ref q2, .ref q3, .ref q4, .int 0, .ref q5, .ref q6, .int 0, .ref q7, .ref q8, .ref q9, .int 0, .null, .int 0]))], [(q1, .inl (E.2.1.1, 173, .inl (fun _ => 0)))], [(q2, .inl (E.2.1.1, 1038, .inl (fun _ => 0)))], [(q3, .inl (E.2.1.1, 346, .inl (fun _ => 0)))], [(q4, .inl (E.2.1.2.2.1, 2, .inl (fun _ => 0)))], [(q5, .inl (E.2.1.1, 173, .inl (fun _ => 0)))], [(q6, .inl (E.2.1.2.1, 60, .inl (fun _ => 0)))], [(q7, .inl (E.2.1.2.2.1, 64, .inl (fun _ => 0)))], [(q8, .inl (E.2.1.1, 64, .inl (fun _ => 0)))], [(q9, .inl (E.2.1.1, 64, .inl (fun _ => 0)))]]) C (I rfl) mi_X6 tyX6_ok nmX6 0 0 rfl rfl rfl 10 (by decide) mt_599 rfl rfl rfl rfl rfl rfl (Nat.le_of_ble_eq_true rfl) dX6_init_76 rfl ?_
  refine g_aload_n C dX6_init_79 rfl 0 rfl ?_
  refine g_bipush (v := (64 : Int32)) C dX6_init_80 (by decide) ?_
  refine g_newI (N := 64) C mt_59 (by decide) (by decide) (by decide) (Nat.le_of_ble_eq_true rfl) (Nat.le_of_ble_eq_true rfl) dX6_init_82 (fun q10 => ?_)
  show G E X 2 [[(q, .inr (6, [.ref q1, .ref q2, .ref q3, .ref q4, .int 0, .ref q5, .ref q6, .int 0, .ref q7, .ref q8, .ref q9, .int 0, .null, .int 0]))], [(q1, .inl (E.2.1.1, 173, .inl (fun _ => 0)))], [(q2, .inl (E.2.1.1, 1038, .inl (fun _ => 0)))], [(q3, .inl (E.2.1.1, 346, .inl (fun _ => 0)))], [(q4, .inl (E.2.1.2.2.1, 2, .inl (fun _ => 0)))], [(q5, .inl (E.2.1.1, 173, .inl (fun _ => 0)))], [(q6, .inl (E.2.1.2.1, 60, .inl (fun _ => 0)))], [(q7, .inl (E.2.1.2.2.1, 64, .inl (fun _ => 0)))], [(q8, .inl (E.2.1.1, 64, .inl (fun _ => 0)))], [(q9, .inl (E.2.1.1, 64, .inl (fun _ => 0)))], [(q10, .inl (E.2.1.1, 64, .inl (fun _ => 0)))]] 10 2048 [(0, .ref q)] [.ref q10, .ref q] 84
  refine g_putF (Cl := RX6) (T := TX6) (N := 14) (Y2 := [[(q, .inr (6, [.ref q1, .ref q2, .ref q3, .ref q4, .int 0, .ref q5, .ref q6, .int 0, .ref q7, .ref q8, .ref q9, .int 0, .ref q10, .int 0]))], [(q1, .inl (E.2.1.1, 173, .inl (fun _ => 0)))], [(q2, .inl (E.2.1.1, 1038, .inl (fun _ => 0)))], [(q3, .inl (E.2.1.1, 346, .inl (fun _ => 0)))], [(q4, .inl (E.2.1.2.2.1, 2, .inl (fun _ => 0)))], [(q5, .inl (E.2.1.1, 173, .inl (fun _ => 0)))], [(q6, .inl (E.2.1.2.1, 60, .inl (fun _ => 0)))], [(q7, .inl (E.2.1.2.2.1, 64, .inl (fun _ => 0)))], [(q8, .inl (E.2.1.1, 64, .inl (fun _ => 0)))], [(q9, .inl (E.2.1.1, 64, .inl (fun _ => 0)))], [(q10, .inl (E.2.1.1, 64, .inl (fun _ => 0)))]]) C (I rfl) mi_X6 tyX6_ok nmX6 0 0 rfl rfl rfl 12 (by decide) mt_601 rfl rfl rfl rfl rfl rfl (Nat.le_of_ble_eq_true rfl) dX6_init_84 rfl ?_
  refine g_aload_n C dX6_init_87 rfl 0 rfl ?_
  refine g_get (Cl := RX6) (T := TX6) (N := 14) C mi_X6 0 rfl (List.mem_of_getElem? (i := 0) rfl) rfl 0 (by decide) mt_589 rfl rfl dX6_init_88 ?_
  refine g_iconst (v := (0 : Int32)) C dX6_init_91 (by decide) ?_
  refine g_bipush (v := (50 : Int32)) C dX6_init_92 (by decide) ?_
  refine g_iast (Y2 := [[(q, .inr (6, [.ref q1, .ref q2, .ref q3, .ref q4, .int 0, .ref q5, .ref q6, .int 0, .ref q7, .ref q8, .ref q9, .int 0, .ref q10, .int 0]))], [(q1, .inl (E.2.1.1, 173, .inl (upd (fun _ => 0) (Int32.toNatClampNeg (0 : Int32)) (50 : Int32))))], [(q2, .inl (E.2.1.1, 1038, .inl (fun _ => 0)))], [(q3, .inl (E.2.1.1, 346, .inl (fun _ => 0)))], [(q4, .inl (E.2.1.2.2.1, 2, .inl (fun _ => 0)))], [(q5, .inl (E.2.1.1, 173, .inl (fun _ => 0)))], [(q6, .inl (E.2.1.2.1, 60, .inl (fun _ => 0)))], [(q7, .inl (E.2.1.2.2.1, 64, .inl (fun _ => 0)))], [(q8, .inl (E.2.1.1, 64, .inl (fun _ => 0)))], [(q9, .inl (E.2.1.1, 64, .inl (fun _ => 0)))], [(q10, .inl (E.2.1.1, 64, .inl (fun _ => 0)))]]) C 1 0 rfl rfl (by show ¬ (_ ∨ _); decide) dX6_init_94 rfl ?_
  refine g_aload_n C dX6_init_95 rfl 0 rfl ?_
  refine g_get (Cl := RX6) (T := TX6) (N := 14) C mi_X6 0 rfl (List.mem_of_getElem? (i := 0) rfl) rfl 0 (by decide) mt_589 rfl rfl dX6_init_96 ?_
  refine g_iconst (v := (1 : Int32)) C dX6_init_99 (by decide) ?_
  refine g_bipush (v := (10 : Int32)) C dX6_init_100 (by decide) ?_
  refine g_iast (Y2 := [[(q, .inr (6, [.ref q1, .ref q2, .ref q3, .ref q4, .int 0, .ref q5, .ref q6, .int 0, .ref q7, .ref q8, .ref q9, .int 0, .ref q10, .int 0]))], [(q1, .inl (E.2.1.1, 173, .inl (upd (upd (fun _ => 0) (Int32.toNatClampNeg (0 : Int32)) (50 : Int32)) (Int32.toNatClampNeg (1 : Int32)) (10 : Int32))))], [(q2, .inl (E.2.1.1, 1038, .inl (fun _ => 0)))], [(q3, .inl (E.2.1.1, 346, .inl (fun _ => 0)))], [(q4, .inl (E.2.1.2.2.1, 2, .inl (fun _ => 0)))], [(q5, .inl (E.2.1.1, 173, .inl (fun _ => 0)))], [(q6, .inl (E.2.1.2.1, 60, .inl (fun _ => 0)))], [(q7, .inl (E.2.1.2.2.1, 64, .inl (fun _ => 0)))], [(q8, .inl (E.2.1.1, 64, .inl (fun _ => 0)))], [(q9, .inl (E.2.1.1, 64, .inl (fun _ => 0)))], [(q10, .inl (E.2.1.1, 64, .inl (fun _ => 0)))]]) C 1 0 rfl rfl (by show ¬ (_ ∨ _); decide) dX6_init_102 rfl ?_
  refine g_aload_n C dX6_init_103 rfl 0 rfl ?_
  refine g_get (Cl := RX6) (T := TX6) (N := 14) C mi_X6 0 rfl (List.mem_of_getElem? (i := 0) rfl) rfl 0 (by decide) mt_589 rfl rfl dX6_init_104 ?_
  refine g_iconst (v := (2 : Int32)) C dX6_init_107 (by decide) ?_
  refine g_bipush (v := (6 : Int32)) C dX6_init_108 (by decide) ?_
  refine g_iast (Y2 := [[(q, .inr (6, [.ref q1, .ref q2, .ref q3, .ref q4, .int 0, .ref q5, .ref q6, .int 0, .ref q7, .ref q8, .ref q9, .int 0, .ref q10, .int 0]))], [(q1, .inl (E.2.1.1, 173, .inl (upd (upd (upd (fun _ => 0) (Int32.toNatClampNeg (0 : Int32)) (50 : Int32)) (Int32.toNatClampNeg (1 : Int32)) (10 : Int32)) (Int32.toNatClampNeg (2 : Int32)) (6 : Int32))))], [(q2, .inl (E.2.1.1, 1038, .inl (fun _ => 0)))], [(q3, .inl (E.2.1.1, 346, .inl (fun _ => 0)))], [(q4, .inl (E.2.1.2.2.1, 2, .inl (fun _ => 0)))], [(q5, .inl (E.2.1.1, 173, .inl (fun _ => 0)))], [(q6, .inl (E.2.1.2.1, 60, .inl (fun _ => 0)))], [(q7, .inl (E.2.1.2.2.1, 64, .inl (fun _ => 0)))], [(q8, .inl (E.2.1.1, 64, .inl (fun _ => 0)))], [(q9, .inl (E.2.1.1, 64, .inl (fun _ => 0)))], [(q10, .inl (E.2.1.1, 64, .inl (fun _ => 0)))]]) C 1 0 rfl rfl (by show ¬ (_ ∨ _); decide) dX6_init_110 rfl ?_
  refine g_aload_n C dX6_init_111 rfl 0 rfl ?_
  refine g_get (Cl := RX6) (T := TX6) (N := 14) C mi_X6 0 rfl (List.mem_of_getElem? (i := 0) rfl) rfl 0 (by decide) mt_589 rfl rfl dX6_init_112 ?_
  refine g_iconst (v := (3 : Int32)) C dX6_init_115 (by decide) ?_
  refine g_bipush (v := (20 : Int32)) C dX6_init_116 (by decide) ?_
  refine g_iast (Y2 := [[(q, .inr (6, [.ref q1, .ref q2, .ref q3, .ref q4, .int 0, .ref q5, .ref q6, .int 0, .ref q7, .ref q8, .ref q9, .int 0, .ref q10, .int 0]))], [(q1, .inl (E.2.1.1, 173, .inl (upd (upd (upd (upd (fun _ => 0) (Int32.toNatClampNeg (0 : Int32)) (50 : Int32)) (Int32.toNatClampNeg (1 : Int32)) (10 : Int32)) (Int32.toNatClampNeg (2 : Int32)) (6 : Int32)) (Int32.toNatClampNeg (3 : Int32)) (20 : Int32))))], [(q2, .inl (E.2.1.1, 1038, .inl (fun _ => 0)))], [(q3, .inl (E.2.1.1, 346, .inl (fun _ => 0)))], [(q4, .inl (E.2.1.2.2.1, 2, .inl (fun _ => 0)))], [(q5, .inl (E.2.1.1, 173, .inl (fun _ => 0)))], [(q6, .inl (E.2.1.2.1, 60, .inl (fun _ => 0)))], [(q7, .inl (E.2.1.2.2.1, 64, .inl (fun _ => 0)))], [(q8, .inl (E.2.1.1, 64, .inl (fun _ => 0)))], [(q9, .inl (E.2.1.1, 64, .inl (fun _ => 0)))], [(q10, .inl (E.2.1.1, 64, .inl (fun _ => 0)))]]) C 1 0 rfl rfl (by show ¬ (_ ∨ _); decide) dX6_init_118 rfl ?_
  refine g_aload_n C dX6_init_119 rfl 0 rfl ?_
  refine g_get (Cl := RX6) (T := TX6) (N := 14) C mi_X6 0 rfl (List.mem_of_getElem? (i := 0) rfl) rfl 0 (by decide) mt_589 rfl rfl dX6_init_120 ?_
  refine g_iconst (v := (4 : Int32)) C dX6_init_123 (by decide) ?_
  refine g_iconst (v := (5 : Int32)) C dX6_init_124 (by decide) ?_
  refine g_iast (Y2 := [[(q, .inr (6, [.ref q1, .ref q2, .ref q3, .ref q4, .int 0, .ref q5, .ref q6, .int 0, .ref q7, .ref q8, .ref q9, .int 0, .ref q10, .int 0]))], [(q1, .inl (E.2.1.1, 173, .inl (upd (upd (upd (upd (upd (fun _ => 0) (Int32.toNatClampNeg (0 : Int32)) (50 : Int32)) (Int32.toNatClampNeg (1 : Int32)) (10 : Int32)) (Int32.toNatClampNeg (2 : Int32)) (6 : Int32)) (Int32.toNatClampNeg (3 : Int32)) (20 : Int32)) (Int32.toNatClampNeg (4 : Int32)) (5 : Int32))))], [(q2, .inl (E.2.1.1, 1038, .inl (fun _ => 0)))], [(q3, .inl (E.2.1.1, 346, .inl (fun _ => 0)))], [(q4, .inl (E.2.1.2.2.1, 2, .inl (fun _ => 0)))], [(q5, .inl (E.2.1.1, 173, .inl (fun _ => 0)))], [(q6, .inl (E.2.1.2.1, 60, .inl (fun _ => 0)))], [(q7, .inl (E.2.1.2.2.1, 64, .inl (fun _ => 0)))], [(q8, .inl (E.2.1.1, 64, .inl (fun _ => 0)))], [(q9, .inl (E.2.1.1, 64, .inl (fun _ => 0)))], [(q10, .inl (E.2.1.1, 64, .inl (fun _ => 0)))]]) C 1 0 rfl rfl (by show ¬ (_ ∨ _); decide) dX6_init_125 rfl ?_
  refine g_aload_n C dX6_init_126 rfl 0 rfl ?_
  refine g_get (Cl := RX6) (T := TX6) (N := 14) C mi_X6 0 rfl (List.mem_of_getElem? (i := 0) rfl) rfl 0 (by decide) mt_589 rfl rfl dX6_init_127 ?_
  refine g_iconst (v := (5 : Int32)) C dX6_init_130 (by decide) ?_
  refine g_bipush (v := (100 : Int32)) C dX6_init_131 (by decide) ?_
  refine g_iast (Y2 := [[(q, .inr (6, [.ref q1, .ref q2, .ref q3, .ref q4, .int 0, .ref q5, .ref q6, .int 0, .ref q7, .ref q8, .ref q9, .int 0, .ref q10, .int 0]))], [(q1, .inl (E.2.1.1, 173, .inl (upd (upd (upd (upd (upd (upd (fun _ => 0) (Int32.toNatClampNeg (0 : Int32)) (50 : Int32)) (Int32.toNatClampNeg (1 : Int32)) (10 : Int32)) (Int32.toNatClampNeg (2 : Int32)) (6 : Int32)) (Int32.toNatClampNeg (3 : Int32)) (20 : Int32)) (Int32.toNatClampNeg (4 : Int32)) (5 : Int32)) (Int32.toNatClampNeg (5 : Int32)) (100 : Int32))))], [(q2, .inl (E.2.1.1, 1038, .inl (fun _ => 0)))], [(q3, .inl (E.2.1.1, 346, .inl (fun _ => 0)))], [(q4, .inl (E.2.1.2.2.1, 2, .inl (fun _ => 0)))], [(q5, .inl (E.2.1.1, 173, .inl (fun _ => 0)))], [(q6, .inl (E.2.1.2.1, 60, .inl (fun _ => 0)))], [(q7, .inl (E.2.1.2.2.1, 64, .inl (fun _ => 0)))], [(q8, .inl (E.2.1.1, 64, .inl (fun _ => 0)))], [(q9, .inl (E.2.1.1, 64, .inl (fun _ => 0)))], [(q10, .inl (E.2.1.1, 64, .inl (fun _ => 0)))]]) C 1 0 rfl rfl (by show ¬ (_ ∨ _); decide) dX6_init_133 rfl ?_
  refine g_aload_n C dX6_init_134 rfl 0 rfl ?_
  refine g_get (Cl := RX6) (T := TX6) (N := 14) C mi_X6 0 rfl (List.mem_of_getElem? (i := 0) rfl) rfl 0 (by decide) mt_589 rfl rfl dX6_init_135 ?_
  refine g_bipush (v := (6 : Int32)) C dX6_init_138 (by decide) ?_
  refine g_sipush (v := (800 : Int32)) C dX6_init_140 (by decide) ?_
  refine g_iast (Y2 := [[(q, .inr (6, [.ref q1, .ref q2, .ref q3, .ref q4, .int 0, .ref q5, .ref q6, .int 0, .ref q7, .ref q8, .ref q9, .int 0, .ref q10, .int 0]))], [(q1, .inl (E.2.1.1, 173, .inl (upd (upd (upd (upd (upd (upd (upd (fun _ => 0) (Int32.toNatClampNeg (0 : Int32)) (50 : Int32)) (Int32.toNatClampNeg (1 : Int32)) (10 : Int32)) (Int32.toNatClampNeg (2 : Int32)) (6 : Int32)) (Int32.toNatClampNeg (3 : Int32)) (20 : Int32)) (Int32.toNatClampNeg (4 : Int32)) (5 : Int32)) (Int32.toNatClampNeg (5 : Int32)) (100 : Int32)) (Int32.toNatClampNeg (6 : Int32)) (800 : Int32))))], [(q2, .inl (E.2.1.1, 1038, .inl (fun _ => 0)))], [(q3, .inl (E.2.1.1, 346, .inl (fun _ => 0)))], [(q4, .inl (E.2.1.2.2.1, 2, .inl (fun _ => 0)))], [(q5, .inl (E.2.1.1, 173, .inl (fun _ => 0)))], [(q6, .inl (E.2.1.2.1, 60, .inl (fun _ => 0)))], [(q7, .inl (E.2.1.2.2.1, 64, .inl (fun _ => 0)))], [(q8, .inl (E.2.1.1, 64, .inl (fun _ => 0)))], [(q9, .inl (E.2.1.1, 64, .inl (fun _ => 0)))], [(q10, .inl (E.2.1.1, 64, .inl (fun _ => 0)))]]) C 1 0 rfl rfl (by show ¬ (_ ∨ _); decide) dX6_init_143 rfl ?_
  refine g_aload_n C dX6_init_144 rfl 0 rfl ?_
  refine g_get (Cl := RX6) (T := TX6) (N := 14) C mi_X6 0 rfl (List.mem_of_getElem? (i := 0) rfl) rfl 0 (by decide) mt_589 rfl rfl dX6_init_145 ?_
  refine g_bipush (v := (22 : Int32)) C dX6_init_148 (by decide) ?_
  refine g_bipush (v := (7 : Int32)) C dX6_init_150 (by decide) ?_
  refine g_iast (Y2 := [[(q, .inr (6, [.ref q1, .ref q2, .ref q3, .ref q4, .int 0, .ref q5, .ref q6, .int 0, .ref q7, .ref q8, .ref q9, .int 0, .ref q10, .int 0]))], [(q1, .inl (E.2.1.1, 173, .inl (upd (upd (upd (upd (upd (upd (upd (upd (fun _ => 0) (Int32.toNatClampNeg (0 : Int32)) (50 : Int32)) (Int32.toNatClampNeg (1 : Int32)) (10 : Int32)) (Int32.toNatClampNeg (2 : Int32)) (6 : Int32)) (Int32.toNatClampNeg (3 : Int32)) (20 : Int32)) (Int32.toNatClampNeg (4 : Int32)) (5 : Int32)) (Int32.toNatClampNeg (5 : Int32)) (100 : Int32)) (Int32.toNatClampNeg (6 : Int32)) (800 : Int32)) (Int32.toNatClampNeg (22 : Int32)) (7 : Int32))))], [(q2, .inl (E.2.1.1, 1038, .inl (fun _ => 0)))], [(q3, .inl (E.2.1.1, 346, .inl (fun _ => 0)))], [(q4, .inl (E.2.1.2.2.1, 2, .inl (fun _ => 0)))], [(q5, .inl (E.2.1.1, 173, .inl (fun _ => 0)))], [(q6, .inl (E.2.1.2.1, 60, .inl (fun _ => 0)))], [(q7, .inl (E.2.1.2.2.1, 64, .inl (fun _ => 0)))], [(q8, .inl (E.2.1.1, 64, .inl (fun _ => 0)))], [(q9, .inl (E.2.1.1, 64, .inl (fun _ => 0)))], [(q10, .inl (E.2.1.1, 64, .inl (fun _ => 0)))]]) C 1 0 rfl rfl (by show ¬ (_ ∨ _); decide) dX6_init_152 rfl ?_
  refine g_iconst (v := (0 : Int32)) C dX6_init_153 (by decide) ?_
  refine g_istore_n (lv2 := [(1, .int (0 : Int32)), (0, .ref q)]) C dX6_init_154 rfl (by decide) rfl ?_
  refine g_iload_n C dX6_init_155 rfl 0 rfl ?_
  refine g_bipush (v := (7 : Int32)) C dX6_init_156 (by decide) ?_
  refine g_icmp_ge (tgt := 194) C dX6_init_158 (by decide) (fun c25 => absurd c25 (by decide)) (fun _ => ?_)
  refine g_aload_n C dX6_init_161 rfl 1 rfl ?_
  refine g_get (Cl := RX6) (T := TX6) (N := 14) C mi_X6 0 rfl (List.mem_of_getElem? (i := 0) rfl) rfl 0 (by decide) mt_589 rfl rfl dX6_init_162 ?_
  refine g_bipush (v := (23 : Int32)) C dX6_init_165 (by decide) ?_
  refine g_iload_n C dX6_init_167 rfl 0 rfl ?_
  refine g_iadd C dX6_init_168 ?_
  refine g_iload_n C dX6_init_169 rfl 0 rfl ?_
  refine g_iconst (v := (2 : Int32)) C dX6_init_170 (by decide) ?_
  refine g_irem C dX6_init_171 (by decide) ?_
  refine g_iconst (v := (1 : Int32)) C dX6_init_172 (by decide) ?_
  refine g_icmp_ne (tgt := 181) C dX6_init_173 (by decide) (fun _ => ?_) (fun c24 => absurd c24 (by decide))
  refine g_bipush (v := (65 : Int32)) C dX6_init_181 (by decide) ?_
  refine g_iload_n C dX6_init_183 rfl 0 rfl ?_
  refine g_iconst (v := (2 : Int32)) C dX6_init_184 (by decide) ?_
  refine g_idiv C dX6_init_185 (by decide) ?_
  refine g_iadd C dX6_init_186 ?_
  refine g_iast (Y2 := [[(q, .inr (6, [.ref q1, .ref q2, .ref q3, .ref q4, .int 0, .ref q5, .ref q6, .int 0, .ref q7, .ref q8, .ref q9, .int 0, .ref q10, .int 0]))], [(q1, .inl (E.2.1.1, 173, .inl (upd (upd (upd (upd (upd (upd (upd (upd (upd (fun _ => 0) (Int32.toNatClampNeg (0 : Int32)) (50 : Int32)) (Int32.toNatClampNeg (1 : Int32)) (10 : Int32)) (Int32.toNatClampNeg (2 : Int32)) (6 : Int32)) (Int32.toNatClampNeg (3 : Int32)) (20 : Int32)) (Int32.toNatClampNeg (4 : Int32)) (5 : Int32)) (Int32.toNatClampNeg (5 : Int32)) (100 : Int32)) (Int32.toNatClampNeg (6 : Int32)) (800 : Int32)) (Int32.toNatClampNeg (22 : Int32)) (7 : Int32)) (Int32.toNatClampNeg ((23 : Int32) + (0 : Int32))) ((65 : Int32) + ((0 : Int32) / (2 : Int32))))))], [(q2, .inl (E.2.1.1, 1038, .inl (fun _ => 0)))], [(q3, .inl (E.2.1.1, 346, .inl (fun _ => 0)))], [(q4, .inl (E.2.1.2.2.1, 2, .inl (fun _ => 0)))], [(q5, .inl (E.2.1.1, 173, .inl (fun _ => 0)))], [(q6, .inl (E.2.1.2.1, 60, .inl (fun _ => 0)))], [(q7, .inl (E.2.1.2.2.1, 64, .inl (fun _ => 0)))], [(q8, .inl (E.2.1.1, 64, .inl (fun _ => 0)))], [(q9, .inl (E.2.1.1, 64, .inl (fun _ => 0)))], [(q10, .inl (E.2.1.1, 64, .inl (fun _ => 0)))]]) C 1 0 rfl rfl (by show ¬ (_ ∨ _); decide) dX6_init_187 rfl ?_
  refine g_iinc (v := ((0 : Int32) + (1 : Int32))) (lv2 := [(1, .int ((0 : Int32) + (1 : Int32))), (0, .ref q)]) C dX6_init_188 0 rfl (ii (by decide)) (by decide) rfl ?_
  refine g_goto (tgt := 155) C dX6_init_191 (by decide) ?_
  refine g_iload_n C dX6_init_155 rfl 0 rfl ?_
  refine g_bipush (v := (7 : Int32)) C dX6_init_156 (by decide) ?_
  refine g_icmp_ge (tgt := 194) C dX6_init_158 (by decide) (fun c23 => absurd c23 (by decide)) (fun _ => ?_)
  refine g_aload_n C dX6_init_161 rfl 1 rfl ?_
  refine g_get (Cl := RX6) (T := TX6) (N := 14) C mi_X6 0 rfl (List.mem_of_getElem? (i := 0) rfl) rfl 0 (by decide) mt_589 rfl rfl dX6_init_162 ?_
  refine g_bipush (v := (23 : Int32)) C dX6_init_165 (by decide) ?_
  refine g_iload_n C dX6_init_167 rfl 0 rfl ?_
  refine g_iadd C dX6_init_168 ?_
  refine g_iload_n C dX6_init_169 rfl 0 rfl ?_
  refine g_iconst (v := (2 : Int32)) C dX6_init_170 (by decide) ?_
  refine g_irem C dX6_init_171 (by decide) ?_
  refine g_iconst (v := (1 : Int32)) C dX6_init_172 (by decide) ?_
  refine g_icmp_ne (tgt := 181) C dX6_init_173 (by decide) (fun c22 => absurd c22 (by decide)) (fun _ => ?_)
  refine g_bipush (v := (124 : Int32)) C dX6_init_176 (by decide) ?_
  refine g_goto (tgt := 187) C dX6_init_178 (by decide) ?_
  refine g_iast (Y2 := [[(q, .inr (6, [.ref q1, .ref q2, .ref q3, .ref q4, .int 0, .ref q5, .ref q6, .int 0, .ref q7, .ref q8, .ref q9, .int 0, .ref q10, .int 0]))], [(q1, .inl (E.2.1.1, 173, .inl (upd (upd (upd (upd (upd (upd (upd (upd (upd (upd (fun _ => 0) (Int32.toNatClampNeg (0 : Int32)) (50 : Int32)) (Int32.toNatClampNeg (1 : Int32)) (10 : Int32)) (Int32.toNatClampNeg (2 : Int32)) (6 : Int32)) (Int32.toNatClampNeg (3 : Int32)) (20 : Int32)) (Int32.toNatClampNeg (4 : Int32)) (5 : Int32)) (Int32.toNatClampNeg (5 : Int32)) (100 : Int32)) (Int32.toNatClampNeg (6 : Int32)) (800 : Int32)) (Int32.toNatClampNeg (22 : Int32)) (7 : Int32)) (Int32.toNatClampNeg ((23 : Int32) + (0 : Int32))) ((65 : Int32) + ((0 : Int32) / (2 : Int32)))) (Int32.toNatClampNeg ((23 : Int32) + ((0 : Int32) + (1 : Int32)))) (124 : Int32))))], [(q2, .inl (E.2.1.1, 1038, .inl (fun _ => 0)))], [(q3, .inl (E.2.1.1, 346, .inl (fun _ => 0)))], [(q4, .inl (E.2.1.2.2.1, 2, .inl (fun _ => 0)))], [(q5, .inl (E.2.1.1, 173, .inl (fun _ => 0)))], [(q6, .inl (E.2.1.2.1, 60, .inl (fun _ => 0)))], [(q7, .inl (E.2.1.2.2.1, 64, .inl (fun _ => 0)))], [(q8, .inl (E.2.1.1, 64, .inl (fun _ => 0)))], [(q9, .inl (E.2.1.1, 64, .inl (fun _ => 0)))], [(q10, .inl (E.2.1.1, 64, .inl (fun _ => 0)))]]) C 1 0 rfl rfl (by show ¬ (_ ∨ _); decide) dX6_init_187 rfl ?_
  refine g_iinc (v := (((0 : Int32) + (1 : Int32)) + (1 : Int32))) (lv2 := [(1, .int (((0 : Int32) + (1 : Int32)) + (1 : Int32))), (0, .ref q)]) C dX6_init_188 0 rfl (ii (by decide)) (by decide) rfl ?_
  refine g_goto (tgt := 155) C dX6_init_191 (by decide) ?_
  refine g_iload_n C dX6_init_155 rfl 0 rfl ?_
  refine g_bipush (v := (7 : Int32)) C dX6_init_156 (by decide) ?_
  refine g_icmp_ge (tgt := 194) C dX6_init_158 (by decide) (fun c21 => absurd c21 (by decide)) (fun _ => ?_)
  refine g_aload_n C dX6_init_161 rfl 1 rfl ?_
  refine g_get (Cl := RX6) (T := TX6) (N := 14) C mi_X6 0 rfl (List.mem_of_getElem? (i := 0) rfl) rfl 0 (by decide) mt_589 rfl rfl dX6_init_162 ?_
  refine g_bipush (v := (23 : Int32)) C dX6_init_165 (by decide) ?_
  refine g_iload_n C dX6_init_167 rfl 0 rfl ?_
  refine g_iadd C dX6_init_168 ?_
  refine g_iload_n C dX6_init_169 rfl 0 rfl ?_
  refine g_iconst (v := (2 : Int32)) C dX6_init_170 (by decide) ?_
  refine g_irem C dX6_init_171 (by decide) ?_
  refine g_iconst (v := (1 : Int32)) C dX6_init_172 (by decide) ?_
  refine g_icmp_ne (tgt := 181) C dX6_init_173 (by decide) (fun _ => ?_) (fun c20 => absurd c20 (by decide))
  refine g_bipush (v := (65 : Int32)) C dX6_init_181 (by decide) ?_
  refine g_iload_n C dX6_init_183 rfl 0 rfl ?_
  refine g_iconst (v := (2 : Int32)) C dX6_init_184 (by decide) ?_
  refine g_idiv C dX6_init_185 (by decide) ?_
  refine g_iadd C dX6_init_186 ?_
  refine g_iast (Y2 := [[(q, .inr (6, [.ref q1, .ref q2, .ref q3, .ref q4, .int 0, .ref q5, .ref q6, .int 0, .ref q7, .ref q8, .ref q9, .int 0, .ref q10, .int 0]))], [(q1, .inl (E.2.1.1, 173, .inl (upd (upd (upd (upd (upd (upd (upd (upd (upd (upd (upd (fun _ => 0) (Int32.toNatClampNeg (0 : Int32)) (50 : Int32)) (Int32.toNatClampNeg (1 : Int32)) (10 : Int32)) (Int32.toNatClampNeg (2 : Int32)) (6 : Int32)) (Int32.toNatClampNeg (3 : Int32)) (20 : Int32)) (Int32.toNatClampNeg (4 : Int32)) (5 : Int32)) (Int32.toNatClampNeg (5 : Int32)) (100 : Int32)) (Int32.toNatClampNeg (6 : Int32)) (800 : Int32)) (Int32.toNatClampNeg (22 : Int32)) (7 : Int32)) (Int32.toNatClampNeg ((23 : Int32) + (0 : Int32))) ((65 : Int32) + ((0 : Int32) / (2 : Int32)))) (Int32.toNatClampNeg ((23 : Int32) + ((0 : Int32) + (1 : Int32)))) (124 : Int32)) (Int32.toNatClampNeg ((23 : Int32) + (((0 : Int32) + (1 : Int32)) + (1 : Int32)))) ((65 : Int32) + ((((0 : Int32) + (1 : Int32)) + (1 : Int32)) / (2 : Int32))))))], [(q2, .inl (E.2.1.1, 1038, .inl (fun _ => 0)))], [(q3, .inl (E.2.1.1, 346, .inl (fun _ => 0)))], [(q4, .inl (E.2.1.2.2.1, 2, .inl (fun _ => 0)))], [(q5, .inl (E.2.1.1, 173, .inl (fun _ => 0)))], [(q6, .inl (E.2.1.2.1, 60, .inl (fun _ => 0)))], [(q7, .inl (E.2.1.2.2.1, 64, .inl (fun _ => 0)))], [(q8, .inl (E.2.1.1, 64, .inl (fun _ => 0)))], [(q9, .inl (E.2.1.1, 64, .inl (fun _ => 0)))], [(q10, .inl (E.2.1.1, 64, .inl (fun _ => 0)))]]) C 1 0 rfl rfl (by show ¬ (_ ∨ _); decide) dX6_init_187 rfl ?_
  refine g_iinc (v := ((((0 : Int32) + (1 : Int32)) + (1 : Int32)) + (1 : Int32))) (lv2 := [(1, .int ((((0 : Int32) + (1 : Int32)) + (1 : Int32)) + (1 : Int32))), (0, .ref q)]) C dX6_init_188 0 rfl (ii (by decide)) (by decide) rfl ?_
  refine g_goto (tgt := 155) C dX6_init_191 (by decide) ?_
  refine g_iload_n C dX6_init_155 rfl 0 rfl ?_
  refine g_bipush (v := (7 : Int32)) C dX6_init_156 (by decide) ?_
  refine g_icmp_ge (tgt := 194) C dX6_init_158 (by decide) (fun c19 => absurd c19 (by decide)) (fun _ => ?_)
  refine g_aload_n C dX6_init_161 rfl 1 rfl ?_
  refine g_get (Cl := RX6) (T := TX6) (N := 14) C mi_X6 0 rfl (List.mem_of_getElem? (i := 0) rfl) rfl 0 (by decide) mt_589 rfl rfl dX6_init_162 ?_
  refine g_bipush (v := (23 : Int32)) C dX6_init_165 (by decide) ?_
  refine g_iload_n C dX6_init_167 rfl 0 rfl ?_
  refine g_iadd C dX6_init_168 ?_
  refine g_iload_n C dX6_init_169 rfl 0 rfl ?_
  refine g_iconst (v := (2 : Int32)) C dX6_init_170 (by decide) ?_
  refine g_irem C dX6_init_171 (by decide) ?_
  refine g_iconst (v := (1 : Int32)) C dX6_init_172 (by decide) ?_
  refine g_icmp_ne (tgt := 181) C dX6_init_173 (by decide) (fun c18 => absurd c18 (by decide)) (fun _ => ?_)
  refine g_bipush (v := (124 : Int32)) C dX6_init_176 (by decide) ?_
  refine g_goto (tgt := 187) C dX6_init_178 (by decide) ?_
  refine g_iast (Y2 := [[(q, .inr (6, [.ref q1, .ref q2, .ref q3, .ref q4, .int 0, .ref q5, .ref q6, .int 0, .ref q7, .ref q8, .ref q9, .int 0, .ref q10, .int 0]))], [(q1, .inl (E.2.1.1, 173, .inl (upd (upd (upd (upd (upd (upd (upd (upd (upd (upd (upd (upd (fun _ => 0) (Int32.toNatClampNeg (0 : Int32)) (50 : Int32)) (Int32.toNatClampNeg (1 : Int32)) (10 : Int32)) (Int32.toNatClampNeg (2 : Int32)) (6 : Int32)) (Int32.toNatClampNeg (3 : Int32)) (20 : Int32)) (Int32.toNatClampNeg (4 : Int32)) (5 : Int32)) (Int32.toNatClampNeg (5 : Int32)) (100 : Int32)) (Int32.toNatClampNeg (6 : Int32)) (800 : Int32)) (Int32.toNatClampNeg (22 : Int32)) (7 : Int32)) (Int32.toNatClampNeg ((23 : Int32) + (0 : Int32))) ((65 : Int32) + ((0 : Int32) / (2 : Int32)))) (Int32.toNatClampNeg ((23 : Int32) + ((0 : Int32) + (1 : Int32)))) (124 : Int32)) (Int32.toNatClampNeg ((23 : Int32) + (((0 : Int32) + (1 : Int32)) + (1 : Int32)))) ((65 : Int32) + ((((0 : Int32) + (1 : Int32)) + (1 : Int32)) / (2 : Int32)))) (Int32.toNatClampNeg ((23 : Int32) + ((((0 : Int32) + (1 : Int32)) + (1 : Int32)) + (1 : Int32)))) (124 : Int32))))], [(q2, .inl (E.2.1.1, 1038, .inl (fun _ => 0)))], [(q3, .inl (E.2.1.1, 346, .inl (fun _ => 0)))], [(q4, .inl (E.2.1.2.2.1, 2, .inl (fun _ => 0)))], [(q5, .inl (E.2.1.1, 173, .inl (fun _ => 0)))], [(q6, .inl (E.2.1.2.1, 60, .inl (fun _ => 0)))], [(q7, .inl (E.2.1.2.2.1, 64, .inl (fun _ => 0)))], [(q8, .inl (E.2.1.1, 64, .inl (fun _ => 0)))], [(q9, .inl (E.2.1.1, 64, .inl (fun _ => 0)))], [(q10, .inl (E.2.1.1, 64, .inl (fun _ => 0)))]]) C 1 0 rfl rfl (by show ¬ (_ ∨ _); decide) dX6_init_187 rfl ?_
  refine g_iinc (v := (((((0 : Int32) + (1 : Int32)) + (1 : Int32)) + (1 : Int32)) + (1 : Int32))) (lv2 := [(1, .int (((((0 : Int32) + (1 : Int32)) + (1 : Int32)) + (1 : Int32)) + (1 : Int32))), (0, .ref q)]) C dX6_init_188 0 rfl (ii (by decide)) (by decide) rfl ?_
  refine g_goto (tgt := 155) C dX6_init_191 (by decide) ?_
  refine g_iload_n C dX6_init_155 rfl 0 rfl ?_
  refine g_bipush (v := (7 : Int32)) C dX6_init_156 (by decide) ?_
  refine g_icmp_ge (tgt := 194) C dX6_init_158 (by decide) (fun c17 => absurd c17 (by decide)) (fun _ => ?_)
  refine g_aload_n C dX6_init_161 rfl 1 rfl ?_
  refine g_get (Cl := RX6) (T := TX6) (N := 14) C mi_X6 0 rfl (List.mem_of_getElem? (i := 0) rfl) rfl 0 (by decide) mt_589 rfl rfl dX6_init_162 ?_
  refine g_bipush (v := (23 : Int32)) C dX6_init_165 (by decide) ?_
  refine g_iload_n C dX6_init_167 rfl 0 rfl ?_
  refine g_iadd C dX6_init_168 ?_
  refine g_iload_n C dX6_init_169 rfl 0 rfl ?_
  refine g_iconst (v := (2 : Int32)) C dX6_init_170 (by decide) ?_
  refine g_irem C dX6_init_171 (by decide) ?_
  refine g_iconst (v := (1 : Int32)) C dX6_init_172 (by decide) ?_
  refine g_icmp_ne (tgt := 181) C dX6_init_173 (by decide) (fun _ => ?_) (fun c16 => absurd c16 (by decide))
  refine g_bipush (v := (65 : Int32)) C dX6_init_181 (by decide) ?_
  refine g_iload_n C dX6_init_183 rfl 0 rfl ?_
  refine g_iconst (v := (2 : Int32)) C dX6_init_184 (by decide) ?_
  refine g_idiv C dX6_init_185 (by decide) ?_
  refine g_iadd C dX6_init_186 ?_
  refine g_iast (Y2 := [[(q, .inr (6, [.ref q1, .ref q2, .ref q3, .ref q4, .int 0, .ref q5, .ref q6, .int 0, .ref q7, .ref q8, .ref q9, .int 0, .ref q10, .int 0]))], [(q1, .inl (E.2.1.1, 173, .inl (upd (upd (upd (upd (upd (upd (upd (upd (upd (upd (upd (upd (upd (fun _ => 0) (Int32.toNatClampNeg (0 : Int32)) (50 : Int32)) (Int32.toNatClampNeg (1 : Int32)) (10 : Int32)) (Int32.toNatClampNeg (2 : Int32)) (6 : Int32)) (Int32.toNatClampNeg (3 : Int32)) (20 : Int32)) (Int32.toNatClampNeg (4 : Int32)) (5 : Int32)) (Int32.toNatClampNeg (5 : Int32)) (100 : Int32)) (Int32.toNatClampNeg (6 : Int32)) (800 : Int32)) (Int32.toNatClampNeg (22 : Int32)) (7 : Int32)) (Int32.toNatClampNeg ((23 : Int32) + (0 : Int32))) ((65 : Int32) + ((0 : Int32) / (2 : Int32)))) (Int32.toNatClampNeg ((23 : Int32) + ((0 : Int32) + (1 : Int32)))) (124 : Int32)) (Int32.toNatClampNeg ((23 : Int32) + (((0 : Int32) + (1 : Int32)) + (1 : Int32)))) ((65 : Int32) + ((((0 : Int32) + (1 : Int32)) + (1 : Int32)) / (2 : Int32)))) (Int32.toNatClampNeg ((23 : Int32) + ((((0 : Int32) + (1 : Int32)) + (1 : Int32)) + (1 : Int32)))) (124 : Int32)) (Int32.toNatClampNeg ((23 : Int32) + (((((0 : Int32) + (1 : Int32)) + (1 : Int32)) + (1 : Int32)) + (1 : Int32)))) ((65 : Int32) + ((((((0 : Int32) + (1 : Int32)) + (1 : Int32)) + (1 : Int32)) + (1 : Int32)) / (2 : Int32))))))], [(q2, .inl (E.2.1.1, 1038, .inl (fun _ => 0)))], [(q3, .inl (E.2.1.1, 346, .inl (fun _ => 0)))], [(q4, .inl (E.2.1.2.2.1, 2, .inl (fun _ => 0)))], [(q5, .inl (E.2.1.1, 173, .inl (fun _ => 0)))], [(q6, .inl (E.2.1.2.1, 60, .inl (fun _ => 0)))], [(q7, .inl (E.2.1.2.2.1, 64, .inl (fun _ => 0)))], [(q8, .inl (E.2.1.1, 64, .inl (fun _ => 0)))], [(q9, .inl (E.2.1.1, 64, .inl (fun _ => 0)))], [(q10, .inl (E.2.1.1, 64, .inl (fun _ => 0)))]]) C 1 0 rfl rfl (by show ¬ (_ ∨ _); decide) dX6_init_187 rfl ?_
  refine g_iinc (v := ((((((0 : Int32) + (1 : Int32)) + (1 : Int32)) + (1 : Int32)) + (1 : Int32)) + (1 : Int32))) (lv2 := [(1, .int ((((((0 : Int32) + (1 : Int32)) + (1 : Int32)) + (1 : Int32)) + (1 : Int32)) + (1 : Int32))), (0, .ref q)]) C dX6_init_188 0 rfl (ii (by decide)) (by decide) rfl ?_
  refine g_goto (tgt := 155) C dX6_init_191 (by decide) ?_
  refine g_iload_n C dX6_init_155 rfl 0 rfl ?_
  refine g_bipush (v := (7 : Int32)) C dX6_init_156 (by decide) ?_
  refine g_icmp_ge (tgt := 194) C dX6_init_158 (by decide) (fun c15 => absurd c15 (by decide)) (fun _ => ?_)
  refine g_aload_n C dX6_init_161 rfl 1 rfl ?_
  refine g_get (Cl := RX6) (T := TX6) (N := 14) C mi_X6 0 rfl (List.mem_of_getElem? (i := 0) rfl) rfl 0 (by decide) mt_589 rfl rfl dX6_init_162 ?_
  refine g_bipush (v := (23 : Int32)) C dX6_init_165 (by decide) ?_
  refine g_iload_n C dX6_init_167 rfl 0 rfl ?_
  refine g_iadd C dX6_init_168 ?_
  refine g_iload_n C dX6_init_169 rfl 0 rfl ?_
  refine g_iconst (v := (2 : Int32)) C dX6_init_170 (by decide) ?_
  refine g_irem C dX6_init_171 (by decide) ?_
  refine g_iconst (v := (1 : Int32)) C dX6_init_172 (by decide) ?_
  refine g_icmp_ne (tgt := 181) C dX6_init_173 (by decide) (fun c14 => absurd c14 (by decide)) (fun _ => ?_)
  refine g_bipush (v := (124 : Int32)) C dX6_init_176 (by decide) ?_
  refine g_goto (tgt := 187) C dX6_init_178 (by decide) ?_
  refine g_iast (Y2 := [[(q, .inr (6, [.ref q1, .ref q2, .ref q3, .ref q4, .int 0, .ref q5, .ref q6, .int 0, .ref q7, .ref q8, .ref q9, .int 0, .ref q10, .int 0]))], [(q1, .inl (E.2.1.1, 173, .inl (upd (upd (upd (upd (upd (upd (upd (upd (upd (upd (upd (upd (upd (upd (fun _ => 0) (Int32.toNatClampNeg (0 : Int32)) (50 : Int32)) (Int32.toNatClampNeg (1 : Int32)) (10 : Int32)) (Int32.toNatClampNeg (2 : Int32)) (6 : Int32)) (Int32.toNatClampNeg (3 : Int32)) (20 : Int32)) (Int32.toNatClampNeg (4 : Int32)) (5 : Int32)) (Int32.toNatClampNeg (5 : Int32)) (100 : Int32)) (Int32.toNatClampNeg (6 : Int32)) (800 : Int32)) (Int32.toNatClampNeg (22 : Int32)) (7 : Int32)) (Int32.toNatClampNeg ((23 : Int32) + (0 : Int32))) ((65 : Int32) + ((0 : Int32) / (2 : Int32)))) (Int32.toNatClampNeg ((23 : Int32) + ((0 : Int32) + (1 : Int32)))) (124 : Int32)) (Int32.toNatClampNeg ((23 : Int32) + (((0 : Int32) + (1 : Int32)) + (1 : Int32)))) ((65 : Int32) + ((((0 : Int32) + (1 : Int32)) + (1 : Int32)) / (2 : Int32)))) (Int32.toNatClampNeg ((23 : Int32) + ((((0 : Int32) + (1 : Int32)) + (1 : Int32)) + (1 : Int32)))) (124 : Int32)) (Int32.toNatClampNeg ((23 : Int32) + (((((0 : Int32) + (1 : Int32)) + (1 : Int32)) + (1 : Int32)) + (1 : Int32)))) ((65 : Int32) + ((((((0 : Int32) + (1 : Int32)) + (1 : Int32)) + (1 : Int32)) + (1 : Int32)) / (2 : Int32)))) (Int32.toNatClampNeg ((23 : Int32) + ((((((0 : Int32) + (1 : Int32)) + (1 : Int32)) + (1 : Int32)) + (1 : Int32)) + (1 : Int32)))) (124 : Int32))))], [(q2, .inl (E.2.1.1, 1038, .inl (fun _ => 0)))], [(q3, .inl (E.2.1.1, 346, .inl (fun _ => 0)))], [(q4, .inl (E.2.1.2.2.1, 2, .inl (fun _ => 0)))], [(q5, .inl (E.2.1.1, 173, .inl (fun _ => 0)))], [(q6, .inl (E.2.1.2.1, 60, .inl (fun _ => 0)))], [(q7, .inl (E.2.1.2.2.1, 64, .inl (fun _ => 0)))], [(q8, .inl (E.2.1.1, 64, .inl (fun _ => 0)))], [(q9, .inl (E.2.1.1, 64, .inl (fun _ => 0)))], [(q10, .inl (E.2.1.1, 64, .inl (fun _ => 0)))]]) C 1 0 rfl rfl (by show ¬ (_ ∨ _); decide) dX6_init_187 rfl ?_
  refine g_iinc (v := (((((((0 : Int32) + (1 : Int32)) + (1 : Int32)) + (1 : Int32)) + (1 : Int32)) + (1 : Int32)) + (1 : Int32))) (lv2 := [(1, .int (((((((0 : Int32) + (1 : Int32)) + (1 : Int32)) + (1 : Int32)) + (1 : Int32)) + (1 : Int32)) + (1 : Int32))), (0, .ref q)]) C dX6_init_188 0 rfl (ii (by decide)) (by decide) rfl ?_
  refine g_goto (tgt := 155) C dX6_init_191 (by decide) ?_
  refine g_iload_n C dX6_init_155 rfl 0 rfl ?_
  refine g_bipush (v := (7 : Int32)) C dX6_init_156 (by decide) ?_
  refine g_icmp_ge (tgt := 194) C dX6_init_158 (by decide) (fun c13 => absurd c13 (by decide)) (fun _ => ?_)
  refine g_aload_n C dX6_init_161 rfl 1 rfl ?_
  refine g_get (Cl := RX6) (T := TX6) (N := 14) C mi_X6 0 rfl (List.mem_of_getElem? (i := 0) rfl) rfl 0 (by decide) mt_589 rfl rfl dX6_init_162 ?_
  refine g_bipush (v := (23 : Int32)) C dX6_init_165 (by decide) ?_
  refine g_iload_n C dX6_init_167 rfl 0 rfl ?_
  refine g_iadd C dX6_init_168 ?_
  refine g_iload_n C dX6_init_169 rfl 0 rfl ?_
  refine g_iconst (v := (2 : Int32)) C dX6_init_170 (by decide) ?_
  refine g_irem C dX6_init_171 (by decide) ?_
  refine g_iconst (v := (1 : Int32)) C dX6_init_172 (by decide) ?_
  refine g_icmp_ne (tgt := 181) C dX6_init_173 (by decide) (fun _ => ?_) (fun c12 => absurd c12 (by decide))
  refine g_bipush (v := (65 : Int32)) C dX6_init_181 (by decide) ?_
  refine g_iload_n C dX6_init_183 rfl 0 rfl ?_
  refine g_iconst (v := (2 : Int32)) C dX6_init_184 (by decide) ?_
  refine g_idiv C dX6_init_185 (by decide) ?_
  refine g_iadd C dX6_init_186 ?_
  refine g_iast (Y2 := [[(q, .inr (6, [.ref q1, .ref q2, .ref q3, .ref q4, .int 0, .ref q5, .ref q6, .int 0, .ref q7, .ref q8, .ref q9, .int 0, .ref q10, .int 0]))], [(q1, .inl (E.2.1.1, 173, .inl (upd (upd (upd (upd (upd (upd (upd (upd (upd (upd (upd (upd (upd (upd (upd (fun _ => 0) (Int32.toNatClampNeg (0 : Int32)) (50 : Int32)) (Int32.toNatClampNeg (1 : Int32)) (10 : Int32)) (Int32.toNatClampNeg (2 : Int32)) (6 : Int32)) (Int32.toNatClampNeg (3 : Int32)) (20 : Int32)) (Int32.toNatClampNeg (4 : Int32)) (5 : Int32)) (Int32.toNatClampNeg (5 : Int32)) (100 : Int32)) (Int32.toNatClampNeg (6 : Int32)) (800 : Int32)) (Int32.toNatClampNeg (22 : Int32)) (7 : Int32)) (Int32.toNatClampNeg ((23 : Int32) + (0 : Int32))) ((65 : Int32) + ((0 : Int32) / (2 : Int32)))) (Int32.toNatClampNeg ((23 : Int32) + ((0 : Int32) + (1 : Int32)))) (124 : Int32)) (Int32.toNatClampNeg ((23 : Int32) + (((0 : Int32) + (1 : Int32)) + (1 : Int32)))) ((65 : Int32) + ((((0 : Int32) + (1 : Int32)) + (1 : Int32)) / (2 : Int32)))) (Int32.toNatClampNeg ((23 : Int32) + ((((0 : Int32) + (1 : Int32)) + (1 : Int32)) + (1 : Int32)))) (124 : Int32)) (Int32.toNatClampNeg ((23 : Int32) + (((((0 : Int32) + (1 : Int32)) + (1 : Int32)) + (1 : Int32)) + (1 : Int32)))) ((65 : Int32) + ((((((0 : Int32) + (1 : Int32)) + (1 : Int32)) + (1 : Int32)) + (1 : Int32)) / (2 : Int32)))) (Int32.toNatClampNeg ((23 : Int32) + ((((((0 : Int32) + (1 : Int32)) + (1 : Int32)) + (1 : Int32)) + (1 : Int32)) + (1 : Int32)))) (124 : Int32)) (Int32.toNatClampNeg ((23 : Int32) + (((((((0 : Int32) + (1 : Int32)) + (1 : Int32)) + (1 : Int32)) + (1 : Int32)) + (1 : Int32)) + (1 : Int32)))) ((65 : Int32) + ((((((((0 : Int32) + (1 : Int32)) + (1 : Int32)) + (1 : Int32)) + (1 : Int32)) + (1 : Int32)) + (1 : Int32)) / (2 : Int32))))))], [(q2, .inl (E.2.1.1, 1038, .inl (fun _ => 0)))], [(q3, .inl (E.2.1.1, 346, .inl (fun _ => 0)))], [(q4, .inl (E.2.1.2.2.1, 2, .inl (fun _ => 0)))], [(q5, .inl (E.2.1.1, 173, .inl (fun _ => 0)))], [(q6, .inl (E.2.1.2.1, 60, .inl (fun _ => 0)))], [(q7, .inl (E.2.1.2.2.1, 64, .inl (fun _ => 0)))], [(q8, .inl (E.2.1.1, 64, .inl (fun _ => 0)))], [(q9, .inl (E.2.1.1, 64, .inl (fun _ => 0)))], [(q10, .inl (E.2.1.1, 64, .inl (fun _ => 0)))]]) C 1 0 rfl rfl (by show ¬ (_ ∨ _); decide) dX6_init_187 rfl ?_
  refine g_iinc (v := ((((((((0 : Int32) + (1 : Int32)) + (1 : Int32)) + (1 : Int32)) + (1 : Int32)) + (1 : Int32)) + (1 : Int32)) + (1 : Int32))) (lv2 := [(1, .int ((((((((0 : Int32) + (1 : Int32)) + (1 : Int32)) + (1 : Int32)) + (1 : Int32)) + (1 : Int32)) + (1 : Int32)) + (1 : Int32))), (0, .ref q)]) C dX6_init_188 0 rfl (ii (by decide)) (by decide) rfl ?_
  refine g_goto (tgt := 155) C dX6_init_191 (by decide) ?_
  refine g_iload_n C dX6_init_155 rfl 0 rfl ?_
  refine g_bipush (v := (7 : Int32)) C dX6_init_156 (by decide) ?_
  refine g_icmp_ge (tgt := 194) C dX6_init_158 (by decide) (fun _ => ?_) (fun c11 => absurd c11 (by decide))
  refine g_cut (Y2 := [md E (fun i => [q, q1, q2, q3, q4, q5, q6, q7, q8, q9, q10].getD i 0) ((upd (upd (upd (upd (upd (upd (upd (upd (upd (upd (upd (upd (upd (upd (upd (fun _ => 0) (Int32.toNatClampNeg (0 : Int32)) (50 : Int32)) (Int32.toNatClampNeg (1 : Int32)) (10 : Int32)) (Int32.toNatClampNeg (2 : Int32)) (6 : Int32)) (Int32.toNatClampNeg (3 : Int32)) (20 : Int32)) (Int32.toNatClampNeg (4 : Int32)) (5 : Int32)) (Int32.toNatClampNeg (5 : Int32)) (100 : Int32)) (Int32.toNatClampNeg (6 : Int32)) (800 : Int32)) (Int32.toNatClampNeg (22 : Int32)) (7 : Int32)) (Int32.toNatClampNeg ((23 : Int32) + (0 : Int32))) ((65 : Int32) + ((0 : Int32) / (2 : Int32)))) (Int32.toNatClampNeg ((23 : Int32) + ((0 : Int32) + (1 : Int32)))) (124 : Int32)) (Int32.toNatClampNeg ((23 : Int32) + (((0 : Int32) + (1 : Int32)) + (1 : Int32)))) ((65 : Int32) + ((((0 : Int32) + (1 : Int32)) + (1 : Int32)) / (2 : Int32)))) (Int32.toNatClampNeg ((23 : Int32) + ((((0 : Int32) + (1 : Int32)) + (1 : Int32)) + (1 : Int32)))) (124 : Int32)) (Int32.toNatClampNeg ((23 : Int32) + (((((0 : Int32) + (1 : Int32)) + (1 : Int32)) + (1 : Int32)) + (1 : Int32)))) ((65 : Int32) + ((((((0 : Int32) + (1 : Int32)) + (1 : Int32)) + (1 : Int32)) + (1 : Int32)) / (2 : Int32)))) (Int32.toNatClampNeg ((23 : Int32) + ((((((0 : Int32) + (1 : Int32)) + (1 : Int32)) + (1 : Int32)) + (1 : Int32)) + (1 : Int32)))) (124 : Int32)) (Int32.toNatClampNeg ((23 : Int32) + (((((((0 : Int32) + (1 : Int32)) + (1 : Int32)) + (1 : Int32)) + (1 : Int32)) + (1 : Int32)) + (1 : Int32)))) ((65 : Int32) + ((((((((0 : Int32) + (1 : Int32)) + (1 : Int32)) + (1 : Int32)) + (1 : Int32)) + (1 : Int32)) + (1 : Int32)) / (2 : Int32)))), (fun _ => 0), (fun _ => 0), (fun _ => 0), 0, (fun _ => 0), (fun _ => 0), 0, (fun _ => 0), (fun _ => 0), (fun _ => 0), 0, (fun _ => 0), 0)]) (List.Perm.of_eq rfl) ?_
  exact g_ret C K dX6_init_194 (Nat.le_of_ble_eq_true rfl) (Nat.le_of_ble_eq_true rfl) ⟨rfl, (fun i => [q, q1, q2, q3, q4, q5, q6, q7, q8, q9, q10].getD i 0), rfl, rfl⟩
