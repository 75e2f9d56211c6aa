abbrev rm_J0_coder_7d493 : Room := { frames := 0, cells := 0, slots := 0, locals := 0 }
set_option maxRecDepth 100000 in
theorem k_J0_coder_7d493 : CF yJ0_coder_7d493 cJ0_coder_7d493 1 (some .byte) 0 := ⟨mt_112, mt_113, mt_4, mt_114, ⟨rfl, by decide +kernel, by decide +kernel, by decide +kernel⟩⟩
set_option maxHeartbeats 4000000 in
set_option maxRecDepth 100000 in
theorem c_J0_coder_7d493 {E : Ev} : ∀ l, MG l yJ0_coder_7d493 cJ0_coder_7d493 1 (some .byte) rm_J0_coder_7d493 E [.ref E.2.2.2.2.2.1] [] (fun v Y => v = some (.int (0 : Int32)) ∧ Y = []) := by
  refine MG.mk (own := RJ0) (lv0 := [(0, .ref E.2.2.2.2.2.1)]) (by decide) rfl (Nat.le_of_ble_eq_true rfl) rfl (fun X C K I => ?_)
  refine g_gets (v := .int 1) C (fun _ _ _ h => h.2.2.2.2.1) mt_70 rfl dJ0_coder_7d493_0 ?_
  refine g_if_eq (tgt := 13) C dJ0_coder_7d493_3 (by decide) (fun c1 => absurd c1 (by decide)) (fun _ => ?_)
  refine g_aload_n C dJ0_coder_7d493_6 rfl 0 rfl ?_
  refine g_skf (v := .int 0) C (fun _ _ _ h => h.2.2.2.1.2.1) mt_637 rfl dJ0_coder_7d493_7 ?_
  refine g_goto (tgt := 14) C dJ0_coder_7d493_10 (by decide) ?_
  refine g_xret C K rfl dJ0_coder_7d493_14 (Nat.le_of_ble_eq_true rfl) (Nat.le_of_ble_eq_true rfl) ⟨?_, rfl⟩
  exact congrArg (fun z => some (Value.int z)) (by decide)
abbrev rm_J0_length_8abf5 : Room := { frames := 1, cells := 0, slots := 0, locals := 20 }
set_option maxRecDepth 100000 in
theorem k_J0_length_8abf5 : CF yJ0_length_8abf5 cJ0_length_8abf5 1 (some .int) 0 := ⟨mt_108, mt_109, mt_4, mt_110, ⟨rfl, by decide +kernel, by decide +kernel, by decide +kernel⟩⟩
set_option maxHeartbeats 4000000 in
set_option maxRecDepth 100000 in
theorem c_J0_length_8abf5 {E : Ev} : ∀ l, MG l yJ0_length_8abf5 cJ0_length_8abf5 1 (some .int) rm_J0_length_8abf5 E [.ref E.2.2.2.2.2.1] [] (fun v Y => v = some (.int (7 : Int32)) ∧ Y = []) := by
  refine MG.mk (own := RJ0) (lv0 := [(0, .ref E.2.2.2.2.2.1)]) (by decide) rfl (Nat.le_of_ble_eq_true rfl) rfl (fun X C K I => ?_)
  refine g_aload_n C dJ0_length_8abf5_0 rfl 0 rfl ?_
  refine g_skf (v := .ref E.2.2.2.2.2.2.1) C (fun _ _ _ h => h.2.2.2.1.2.2.1) mt_638 rfl dJ0_length_8abf5_1 ?_
  refine g_tlen (f := fun j => lstB.getD j 0) C (fun _ _ _ h => h.2.2.2.1.2.2.2) dJ0_length_8abf5_4 ?_
  refine g_aload_n C dJ0_length_8abf5_5 rfl 0 rfl ?_
  refine g_callVK (As := []) (rest := [.int (7 : Int32)]) C k_J0_coder_7d493 (fun l => c_J0_coder_7d493 (E := E) l) mt_111 (fun _ _ _ h => h.2.2.2.1.1) [] rfl (by decide) rfl (Nat.le_of_ble_eq_true rfl) ⟨Nat.le_of_ble_eq_true rfl, Nat.le_of_ble_eq_true rfl, Nat.le_of_ble_eq_true rfl, Nat.le_of_ble_eq_true rfl⟩ dJ0_length_8abf5_6 ?_
  rintro _ _ ⟨rfl, rfl⟩
  show G E X 1 [] 0 0 [(0, .ref E.2.2.2.2.2.1)] [.int (0 : Int32), .int (7 : Int32)] 9
  refine g_ishr C dJ0_length_8abf5_9 ?_
  refine g_xret C K rfl dJ0_length_8abf5_10 (Nat.le_of_ble_eq_true rfl) (Nat.le_of_ble_eq_true rfl) ⟨?_, rfl⟩
  exact congrArg (fun z => some (Value.int z)) (by decide)
abbrev rm_J0_isLatin1_aae02 : Room := { frames := 0, cells := 0, slots := 0, locals := 0 }
set_option maxRecDepth 100000 in
theorem k_J0_isLatin1_aae02 : CF yJ0_isLatin1_aae02 cJ0_isLatin1_aae02 1 (some .boolean) 0 := ⟨mt_67, mt_68, mt_4, mt_69, ⟨rfl, by decide +kernel, by decide +kernel, by decide +kernel⟩⟩
set_option maxHeartbeats 4000000 in
set_option maxRecDepth 100000 in
theorem c_J0_isLatin1_aae02 {E : Ev} : ∀ l, MG l yJ0_isLatin1_aae02 cJ0_isLatin1_aae02 1 (some .boolean) rm_J0_isLatin1_aae02 E [.ref E.2.2.2.2.2.1] [] (fun v Y => v = some (.int (1 : Int32)) ∧ Y = []) := by
  refine MG.mk (own := RJ0) (lv0 := [(0, .ref E.2.2.2.2.2.1)]) (by decide) rfl (Nat.le_of_ble_eq_true rfl) rfl (fun X C K I => ?_)
  refine g_gets (v := .int 1) C (fun _ _ _ h => h.2.2.2.2.1) mt_70 rfl dJ0_isLatin1_aae02_0 ?_
  refine g_if_eq (tgt := 17) C dJ0_isLatin1_aae02_3 (by decide) (fun c2 => absurd c2 (by decide)) (fun _ => ?_)
  refine g_aload_n C dJ0_isLatin1_aae02_6 rfl 0 rfl ?_
  refine g_skf (v := .int 0) C (fun _ _ _ h => h.2.2.2.1.2.1) mt_637 rfl dJ0_isLatin1_aae02_7 ?_
  refine g_if_ne (tgt := 17) C dJ0_isLatin1_aae02_10 (by decide) (fun c1 => absurd c1 (by decide)) (fun _ => ?_)
  refine g_iconst (v := (1 : Int32)) C dJ0_isLatin1_aae02_13 (by decide) ?_
  refine g_goto (tgt := 18) C dJ0_isLatin1_aae02_14 (by decide) ?_
  refine g_xret C K rfl dJ0_isLatin1_aae02_18 (Nat.le_of_ble_eq_true rfl) (Nat.le_of_ble_eq_true rfl) ⟨?_, rfl⟩
  exact congrArg (fun z => some (Value.int z)) (by decide)
def chr7 : Fn := (upd (upd (upd (upd (upd (upd (upd (fun _ => 0) (Int32.toNatClampNeg (0 : Int32)) (vp_nar .char ((Int32.toUInt32 ((lstB.getD (Int32.toNatClampNeg (0 : Int32)) 0) &&& (255 : Int32)) % 65536).toInt32))) (Int32.toNatClampNeg ((0 : Int32) + (1 : Int32))) (vp_nar .char ((Int32.toUInt32 ((lstB.getD (Int32.toNatClampNeg ((0 : Int32) + (1 : Int32))) 0) &&& (255 : Int32)) % 65536).toInt32))) (Int32.toNatClampNeg (((0 : Int32) + (1 : Int32)) + (1 : Int32))) (vp_nar .char ((Int32.toUInt32 ((lstB.getD (Int32.toNatClampNeg (((0 : Int32) + (1 : Int32)) + (1 : Int32))) 0) &&& (255 : Int32)) % 65536).toInt32))) (Int32.toNatClampNeg ((((0 : Int32) + (1 : Int32)) + (1 : Int32)) + (1 : Int32))) (vp_nar .char ((Int32.toUInt32 ((lstB.getD (Int32.toNatClampNeg ((((0 : Int32) + (1 : Int32)) + (1 : Int32)) + (1 : Int32))) 0) &&& (255 : Int32)) % 65536).toInt32))) (Int32.toNatClampNeg (((((0 : Int32) + (1 : Int32)) + (1 : Int32)) + (1 : Int32)) + (1 : Int32))) (vp_nar .char ((Int32.toUInt32 ((lstB.getD (Int32.toNatClampNeg (((((0 : Int32) + (1 : Int32)) + (1 : Int32)) + (1 : Int32)) + (1 : Int32))) 0) &&& (255 : Int32)) % 65536).toInt32))) (Int32.toNatClampNeg ((((((0 : Int32) + (1 : Int32)) + (1 : Int32)) + (1 : Int32)) + (1 : Int32)) + (1 : Int32))) (vp_nar .char ((Int32.toUInt32 ((lstB.getD (Int32.toNatClampNeg ((((((0 : Int32) + (1 : Int32)) + (1 : Int32)) + (1 : Int32)) + (1 : Int32)) + (1 : Int32))) 0) &&& (255 : Int32)) % 65536).toInt32))) (Int32.toNatClampNeg (((((((0 : Int32) + (1 : Int32)) + (1 : Int32)) + (1 : Int32)) + (1 : Int32)) + (1 : Int32)) + (1 : Int32))) (vp_nar .char ((Int32.toUInt32 ((lstB.getD (Int32.toNatClampNeg (((((((0 : Int32) + (1 : Int32)) + (1 : Int32)) + (1 : Int32)) + (1 : Int32)) + (1 : Int32)) + (1 : Int32))) 0) &&& (255 : Int32)) % 65536).toInt32)))
abbrev rm_J1_inflate_03870 : Room := { frames := 0, cells := 0, slots := 0, locals := 0 }
set_option maxRecDepth 100000 in
theorem k_J1_inflate_03870 : CFs yJ1_inflate_03870 cJ1_inflate_03870 6 (Option.none : Option FieldType) 5 := ⟨mt_76, mt_5, mt_77, ⟨by decide +kernel, by decide +kernel, by decide +kernel⟩⟩
set_option maxHeartbeats 4000000 in
set_option maxRecDepth 100000 in
theorem c_J1_inflate_03870 {E : Ev} {q : Nat} : ∀ l, MG l yJ1_inflate_03870 cJ1_inflate_03870 6 (Option.none : Option FieldType) rm_J1_inflate_03870 E [.ref E.2.2.2.2.2.2.1, .int (0 : Int32), .ref q, .int (0 : Int32), .int (7 : Int32)] [[(q, .inl (E.2.1.2.1, 7, .inl (fun _ => 0)))]] (fun v Y => v = none ∧ Y = [[(q, .inl (E.2.1.2.1, 7, .inl chr7))]]) := by
  refine MG.mk (own := RJ1) (lv0 := [(0, .ref E.2.2.2.2.2.2.1), (1, .int (0 : Int32)), (2, .ref q), (3, .int (0 : Int32)), (4, .int (7 : Int32))]) (by decide) rfl (Nat.le_of_ble_eq_true rfl) rfl (fun X C K I => ?_)
  refine g_iconst (v := (0 : Int32)) C dJ1_inflate_03870_0 (by decide) ?_
  refine g_istore (lv2 := [(5, .int (0 : Int32)), (0, .ref E.2.2.2.2.2.2.1), (1, .int (0 : Int32)), (2, .ref q), (3, .int (0 : Int32)), (4, .int (7 : Int32))]) C dJ1_inflate_03870_1 (by decide) rfl ?_
  refine g_iload C dJ1_inflate_03870_3 0 rfl ?_
  refine g_iload C dJ1_inflate_03870_5 5 rfl ?_
  refine g_icmp_ge (tgt := 33) C dJ1_inflate_03870_7 (by decide) (fun c8 => absurd c8 (by decide)) (fun _ => ?_)
  refine g_aload_n C dJ1_inflate_03870_10 rfl 3 rfl ?_
  refine g_iload_n C dJ1_inflate_03870_11 rfl 4 rfl ?_
  refine g_iinc (v := ((0 : Int32) + (1 : Int32))) (lv2 := [(3, .int ((0 : Int32) + (1 : Int32))), (5, .int (0 : Int32)), (0, .ref E.2.2.2.2.2.2.1), (1, .int (0 : Int32)), (2, .ref q), (4, .int (7 : Int32))]) C dJ1_inflate_03870_12 4 rfl (ii (by decide)) (by decide) rfl ?_
  refine g_aload_n C dJ1_inflate_03870_15 rfl 2 rfl ?_
  refine g_iload_n C dJ1_inflate_03870_16 rfl 3 rfl ?_
  refine g_iinc (v := ((0 : Int32) + (1 : Int32))) (lv2 := [(1, .int ((0 : Int32) + (1 : Int32))), (3, .int ((0 : Int32) + (1 : Int32))), (5, .int (0 : Int32)), (0, .ref E.2.2.2.2.2.2.1), (2, .ref q), (4, .int (7 : Int32))]) C dJ1_inflate_03870_17 3 rfl (ii (by decide)) (by decide) rfl ?_
  refine g_tb (f := fun j => lstB.getD j 0) C (fun _ _ _ h => h.2.2.2.1.2.2.2) (by show ¬ (_ ∨ _); decide) dJ1_inflate_03870_20 ?_
  refine g_sipush (v := (255 : Int32)) C dJ1_inflate_03870_21 (by decide) ?_
  refine g_iand C dJ1_inflate_03870_24 ?_
  refine g_i2c C dJ1_inflate_03870_25 ?_
  refine g_cast (Y2 := [[(q, .inl (E.2.1.2.1, 7, .inl (upd (fun _ => 0) (Int32.toNatClampNeg (0 : Int32)) (vp_nar .char ((Int32.toUInt32 ((lstB.getD (Int32.toNatClampNeg (0 : Int32)) 0) &&& (255 : Int32)) % 65536).toInt32)))))]]) C 0 0 rfl rfl (by show ¬ (_ ∨ _); decide) dJ1_inflate_03870_26 rfl ?_
  refine g_iinc (v := ((0 : Int32) + (1 : Int32))) (lv2 := [(5, .int ((0 : Int32) + (1 : Int32))), (1, .int ((0 : Int32) + (1 : Int32))), (3, .int ((0 : Int32) + (1 : Int32))), (0, .ref E.2.2.2.2.2.2.1), (2, .ref q), (4, .int (7 : Int32))]) C dJ1_inflate_03870_27 2 rfl (ii (by decide)) (by decide) rfl ?_
  refine g_goto (tgt := 3) C dJ1_inflate_03870_30 (by decide) ?_
  refine g_iload C dJ1_inflate_03870_3 0 rfl ?_
  refine g_iload C dJ1_inflate_03870_5 5 rfl ?_
  refine g_icmp_ge (tgt := 33) C dJ1_inflate_03870_7 (by decide) (fun c7 => absurd c7 (by decide)) (fun _ => ?_)
  refine g_aload_n C dJ1_inflate_03870_10 rfl 4 rfl ?_
  refine g_iload_n C dJ1_inflate_03870_11 rfl 2 rfl ?_
  refine g_iinc (v := (((0 : Int32) + (1 : Int32)) + (1 : Int32))) (lv2 := [(3, .int (((0 : Int32) + (1 : Int32)) + (1 : Int32))), (5, .int ((0 : Int32) + (1 : Int32))), (1, .int ((0 : Int32) + (1 : Int32))), (0, .ref E.2.2.2.2.2.2.1), (2, .ref q), (4, .int (7 : Int32))]) C dJ1_inflate_03870_12 2 rfl (ii (by decide)) (by decide) rfl ?_
  refine g_aload_n C dJ1_inflate_03870_15 rfl 3 rfl ?_
  refine g_iload_n C dJ1_inflate_03870_16 rfl 2 rfl ?_
  refine g_iinc (v := (((0 : Int32) + (1 : Int32)) + (1 : Int32))) (lv2 := [(1, .int (((0 : Int32) + (1 : Int32)) + (1 : Int32))), (3, .int (((0 : Int32) + (1 : Int32)) + (1 : Int32))), (5, .int ((0 : Int32) + (1 : Int32))), (0, .ref E.2.2.2.2.2.2.1), (2, .ref q), (4, .int (7 : Int32))]) C dJ1_inflate_03870_17 2 rfl (ii (by decide)) (by decide) rfl ?_
  refine g_tb (f := fun j => lstB.getD j 0) C (fun _ _ _ h => h.2.2.2.1.2.2.2) (by show ¬ (_ ∨ _); decide) dJ1_inflate_03870_20 ?_
  refine g_sipush (v := (255 : Int32)) C dJ1_inflate_03870_21 (by decide) ?_
  refine g_iand C dJ1_inflate_03870_24 ?_
  refine g_i2c C dJ1_inflate_03870_25 ?_
  refine g_cast (Y2 := [[(q, .inl (E.2.1.2.1, 7, .inl (upd (upd (fun _ => 0) (Int32.toNatClampNeg (0 : Int32)) (vp_nar .char ((Int32.toUInt32 ((lstB.getD (Int32.toNatClampNeg (0 : Int32)) 0) &&& (255 : Int32)) % 65536).toInt32))) (Int32.toNatClampNeg ((0 : Int32) + (1 : Int32))) (vp_nar .char ((Int32.toUInt32 ((lstB.getD (Int32.toNatClampNeg ((0 : Int32) + (1 : Int32))) 0) &&& (255 : Int32)) % 65536).toInt32)))))]]) C 0 0 rfl rfl (by show ¬ (_ ∨ _); decide) dJ1_inflate_03870_26 rfl ?_
  refine g_iinc (v := (((0 : Int32) + (1 : Int32)) + (1 : Int32))) (lv2 := [(5, .int (((0 : Int32) + (1 : Int32)) + (1 : Int32))), (1, .int (((0 : Int32) + (1 : Int32)) + (1 : Int32))), (3, .int (((0 : Int32) + (1 : Int32)) + (1 : Int32))), (0, .ref E.2.2.2.2.2.2.1), (2, .ref q), (4, .int (7 : Int32))]) C dJ1_inflate_03870_27 2 rfl (ii (by decide)) (by decide) rfl ?_
  refine g_goto (tgt := 3) C dJ1_inflate_03870_30 (by decide) ?_
  refine g_iload C dJ1_inflate_03870_3 0 rfl ?_
  refine g_iload C dJ1_inflate_03870_5 5 rfl ?_
  refine g_icmp_ge (tgt := 33) C dJ1_inflate_03870_7 (by decide) (fun c6 => absurd c6 (by decide)) (fun _ => ?_)
  refine g_aload_n C dJ1_inflate_03870_10 rfl 4 rfl ?_
  refine g_iload_n C dJ1_inflate_03870_11 rfl 2 rfl ?_
  refine g_iinc (v := ((((0 : Int32) + (1 : Int32)) + (1 : Int32)) + (1 : Int32))) (lv2 := [(3, .int ((((0 : Int32) + (1 : Int32)) + (1 : Int32)) + (1 : Int32))), (5, .int (((0 : Int32) + (1 : Int32)) + (1 : Int32))), (1, .int (((0 : Int32) + (1 : Int32)) + (1 : Int32))), (0, .ref E.2.2.2.2.2.2.1), (2, .ref q), (4, .int (7 : Int32))]) C dJ1_inflate_03870_12 2 rfl (ii (by decide)) (by decide) rfl ?_
  refine g_aload_n C dJ1_inflate_03870_15 rfl 3 rfl ?_
  refine g_iload_n C dJ1_inflate_03870_16 rfl 2 rfl ?_
  refine g_iinc (v := ((((0 : Int32) + (1 : Int32)) + (1 : Int32)) + (1 : Int32))) (lv2 := [(1, .int ((((0 : Int32) + (1 : Int32)) + (1 : Int32)) + (1 : Int32))), (3, .int ((((0 : Int32) + (1 : Int32)) + (1 : Int32)) + (1 : Int32))), (5, .int (((0 : Int32) + (1 : Int32)) + (1 : Int32))), (0, .ref E.2.2.2.2.2.2.1), (2, .ref q), (4, .int (7 : Int32))]) C dJ1_inflate_03870_17 2 rfl (ii (by decide)) (by decide) rfl ?_
  refine g_tb (f := fun j => lstB.getD j 0) C (fun _ _ _ h => h.2.2.2.1.2.2.2) (by show ¬ (_ ∨ _); decide) dJ1_inflate_03870_20 ?_
  refine g_sipush (v := (255 : Int32)) C dJ1_inflate_03870_21 (by decide) ?_
  refine g_iand C dJ1_inflate_03870_24 ?_
  refine g_i2c C dJ1_inflate_03870_25 ?_
  refine g_cast (Y2 := [[(q, .inl (E.2.1.2.1, 7, .inl (upd (upd (upd (fun _ => 0) (Int32.toNatClampNeg (0 : Int32)) (vp_nar .char ((Int32.toUInt32 ((lstB.getD (Int32.toNatClampNeg (0 : Int32)) 0) &&& (255 : Int32)) % 65536).toInt32))) (Int32.toNatClampNeg ((0 : Int32) + (1 : Int32))) (vp_nar .char ((Int32.toUInt32 ((lstB.getD (Int32.toNatClampNeg ((0 : Int32) + (1 : Int32))) 0) &&& (255 : Int32)) % 65536).toInt32))) (Int32.toNatClampNeg (((0 : Int32) + (1 : Int32)) + (1 : Int32))) (vp_nar .char ((Int32.toUInt32 ((lstB.getD (Int32.toNatClampNeg (((0 : Int32) + (1 : Int32)) + (1 : Int32))) 0) &&& (255 : Int32)) % 65536).toInt32)))))]]) C 0 0 rfl rfl (by show ¬ (_ ∨ _); decide) dJ1_inflate_03870_26 rfl ?_
  refine g_iinc (v := ((((0 : Int32) + (1 : Int32)) + (1 : Int32)) + (1 : Int32))) (lv2 := [(5, .int ((((0 : Int32) + (1 : Int32)) + (1 : Int32)) + (1 : Int32))), (1, .int ((((0 : Int32) + (1 : Int32)) + (1 : Int32)) + (1 : Int32))), (3, .int ((((0 : Int32) + (1 : Int32)) + (1 : Int32)) + (1 : Int32))), (0, .ref E.2.2.2.2.2.2.1), (2, .ref q), (4, .int (7 : Int32))]) C dJ1_inflate_03870_27 2 rfl (ii (by decide)) (by decide) rfl ?_
  refine g_goto (tgt := 3) C dJ1_inflate_03870_30 (by decide) ?_
  refine g_iload C dJ1_inflate_03870_3 0 rfl ?_
  refine g_iload C dJ1_inflate_03870_5 5 rfl ?_
  refine g_icmp_ge (tgt := 33) C dJ1_inflate_03870_7 (by decide) (fun c5 => absurd c5 (by decide)) (fun _ => ?_)
  refine g_aload_n C dJ1_inflate_03870_10 rfl 4 rfl ?_
  refine g_iload_n C dJ1_inflate_03870_11 rfl 2 rfl ?_
  refine g_iinc (v := (((((0 : Int32) + (1 : Int32)) + (1 : Int32)) + (1 : Int32)) + (1 : Int32))) (lv2 := [(3, .int (((((0 : Int32) + (1 : Int32)) + (1 : Int32)) + (1 : Int32)) + (1 : Int32))), (5, .int ((((0 : Int32) + (1 : Int32)) + (1 : Int32)) + (1 : Int32))), (1, .int ((((0 : Int32) + (1 : Int32)) + (1 : Int32)) + (1 : Int32))), (0, .ref E.2.2.2.2.2.2.1), (2, .ref q), (4, .int (7 : Int32))]) C dJ1_inflate_03870_12 2 rfl (ii (by decide)) (by decide) rfl ?_
  refine g_aload_n C dJ1_inflate_03870_15 rfl 3 rfl ?_
  refine g_iload_n C dJ1_inflate_03870_16 rfl 2 rfl ?_
  refine g_iinc (v := (((((0 : Int32) + (1 : Int32)) + (1 : Int32)) + (1 : Int32)) + (1 : Int32))) (lv2 := [(1, .int (((((0 : Int32) + (1 : Int32)) + (1 : Int32)) + (1 : Int32)) + (1 : Int32))), (3, .int (((((0 : Int32) + (1 : Int32)) + (1 : Int32)) + (1 : Int32)) + (1 : Int32))), (5, .int ((((0 : Int32) + (1 : Int32)) + (1 : Int32)) + (1 : Int32))), (0, .ref E.2.2.2.2.2.2.1), (2, .ref q), (4, .int (7 : Int32))]) C dJ1_inflate_03870_17 2 rfl (ii (by decide)) (by decide) rfl ?_
  refine g_tb (f := fun j => lstB.getD j 0) C (fun _ _ _ h => h.2.2.2.1.2.2.2) (by show ¬ (_ ∨ _); decide) dJ1_inflate_03870_20 ?_
  refine g_sipush (v := (255 : Int32)) C dJ1_inflate_03870_21 (by decide) ?_
  refine g_iand C dJ1_inflate_03870_24 ?_
  refine g_i2c C dJ1_inflate_03870_25 ?_
  refine g_cast (Y2 := [[(q, .inl (E.2.1.2.1, 7, .inl (upd (upd (upd (upd (fun _ => 0) (Int32.toNatClampNeg (0 : Int32)) (vp_nar .char ((Int32.toUInt32 ((lstB.getD (Int32.toNatClampNeg (0 : Int32)) 0) &&& (255 : Int32)) % 65536).toInt32))) (Int32.toNatClampNeg ((0 : Int32) + (1 : Int32))) (vp_nar .char ((Int32.toUInt32 ((lstB.getD (Int32.toNatClampNeg ((0 : Int32) + (1 : Int32))) 0) &&& (255 : Int32)) % 65536).toInt32))) (Int32.toNatClampNeg (((0 : Int32) + (1 : Int32)) + (1 : Int32))) (vp_nar .char ((Int32.toUInt32 ((lstB.getD (Int32.toNatClampNeg (((0 : Int32) + (1 : Int32)) + (1 : Int32))) 0) &&& (255 : Int32)) % 65536).toInt32))) (Int32.toNatClampNeg ((((0 : Int32) + (1 : Int32)) + (1 : Int32)) + (1 : Int32))) (vp_nar .char ((Int32.toUInt32 ((lstB.getD (Int32.toNatClampNeg ((((0 : Int32) + (1 : Int32)) + (1 : Int32)) + (1 : Int32))) 0) &&& (255 : Int32)) % 65536).toInt32)))))]]) C 0 0 rfl rfl (by show ¬ (_ ∨ _); decide) dJ1_inflate_03870_26 rfl ?_
  refine g_iinc (v := (((((0 : Int32) + (1 : Int32)) + (1 : Int32)) + (1 : Int32)) + (1 : Int32))) (lv2 := [(5, .int (((((0 : Int32) + (1 : Int32)) + (1 : Int32)) + (1 : Int32)) + (1 : Int32))), (1, .int (((((0 : Int32) + (1 : Int32)) + (1 : Int32)) + (1 : Int32)) + (1 : Int32))), (3, .int (((((0 : Int32) + (1 : Int32)) + (1 : Int32)) + (1 : Int32)) + (1 : Int32))), (0, .ref E.2.2.2.2.2.2.1), (2, .ref q), (4, .int (7 : Int32))]) C dJ1_inflate_03870_27 2 rfl (ii (by decide)) (by decide) rfl ?_
  refine g_goto (tgt := 3) C dJ1_inflate_03870_30 (by decide) ?_
  refine g_iload C dJ1_inflate_03870_3 0 rfl ?_
  refine g_iload C dJ1_inflate_03870_5 5 rfl ?_
  refine g_icmp_ge (tgt := 33) C dJ1_inflate_03870_7 (by decide) (fun c4 => absurd c4 (by decide)) (fun _ => ?_)
  refine g_aload_n C dJ1_inflate_03870_10 rfl 4 rfl ?_
  refine g_iload_n C dJ1_inflate_03870_11 rfl 2 rfl ?_
  refine g_iinc (v := ((((((0 : Int32) + (1 : Int32)) + (1 : Int32)) + (1 : Int32)) + (1 : Int32)) + (1 : Int32))) (lv2 := [(3, .int ((((((0 : Int32) + (1 : Int32)) + (1 : Int32)) + (1 : Int32)) + (1 : Int32)) + (1 : Int32))), (5, .int (((((0 : Int32) + (1 : Int32)) + (1 : Int32)) + (1 : Int32)) + (1 : Int32))), (1, .int (((((0 : Int32) + (1 : Int32)) + (1 : Int32)) + (1 : Int32)) + (1 : Int32))), (0, .ref E.2.2.2.2.2.2.1), (2, .ref q), (4, .int (7 : Int32))]) C dJ1_inflate_03870_12 2 rfl (ii (by decide)) (by decide) rfl ?_
  refine g_aload_n C dJ1_inflate_03870_15 rfl 3 rfl ?_
  refine g_iload_n C dJ1_inflate_03870_16 rfl 2 rfl ?_
  refine g_iinc (v := ((((((0 : Int32) + (1 : Int32)) + (1 : Int32)) + (1 : Int32)) + (1 : Int32)) + (1 : Int32))) (lv2 := [(1, .int ((((((0 : Int32) + (1 : Int32)) + (1 : Int32)) + (1 : Int32)) + (1 : Int32)) + (1 : Int32))), (3, .int ((((((0 : Int32) + (1 : Int32)) + (1 : Int32)) + (1 : Int32)) + (1 : Int32)) + (1 : Int32))), (5, .int (((((0 : Int32) + (1 : Int32)) + (1 : Int32)) + (1 : Int32)) + (1 : Int32))), (0, .ref E.2.2.2.2.2.2.1), (2, .ref q), (4, .int (7 : Int32))]) C dJ1_inflate_03870_17 2 rfl (ii (by decide)) (by decide) rfl ?_
  refine g_tb (f := fun j => lstB.getD j 0) C (fun _ _ _ h => h.2.2.2.1.2.2.2) (by show ¬ (_ ∨ _); decide) dJ1_inflate_03870_20 ?_
  refine g_sipush (v := (255 : Int32)) C dJ1_inflate_03870_21 (by decide) ?_
  refine g_iand C dJ1_inflate_03870_24 ?_
  refine g_i2c C dJ1_inflate_03870_25 ?_
  refine g_cast (Y2 := [[(q, .inl (E.2.1.2.1, 7, .inl (upd (upd (upd (upd (upd (fun _ => 0) (Int32.toNatClampNeg (0 : Int32)) (vp_nar .char ((Int32.toUInt32 ((lstB.getD (Int32.toNatClampNeg (0 : Int32)) 0) &&& (255 : Int32)) % 65536).toInt32))) (Int32.toNatClampNeg ((0 : Int32) + (1 : Int32))) (vp_nar .char ((Int32.toUInt32 ((lstB.getD (Int32.toNatClampNeg ((0 : Int32) + (1 : Int32))) 0) &&& (255 : Int32)) % 65536).toInt32))) (Int32.toNatClampNeg (((0 : Int32) + (1 : Int32)) + (1 : Int32))) (vp_nar .char ((Int32.toUInt32 ((lstB.getD (Int32.toNatClampNeg (((0 : Int32) + (1 : Int32)) + (1 : Int32))) 0) &&& (255 : Int32)) % 65536).toInt32))) (Int32.toNatClampNeg ((((0 : Int32) + (1 : Int32)) + (1 : Int32)) + (1 : Int32))) (vp_nar .char ((Int32.toUInt32 ((lstB.getD (Int32.toNatClampNeg ((((0 : Int32) + (1 : Int32)) + (1 : Int32)) + (1 : Int32))) 0) &&& (255 : Int32)) % 65536).toInt32))) (Int32.toNatClampNeg (((((0 : Int32) + (1 : Int32)) + (1 : Int32)) + (1 : Int32)) + (1 : Int32))) (vp_nar .char ((Int32.toUInt32 ((lstB.getD (Int32.toNatClampNeg (((((0 : Int32) + (1 : Int32)) + (1 : Int32)) + (1 : Int32)) + (1 : Int32))) 0) &&& (255 : Int32)) % 65536).toInt32)))))]]) C 0 0 rfl rfl (by show ¬ (_ ∨ _); decide) dJ1_inflate_03870_26 rfl ?_
  refine g_iinc (v := ((((((0 : Int32) + (1 : Int32)) + (1 : Int32)) + (1 : Int32)) + (1 : Int32)) + (1 : Int32))) (lv2 := [(5, .int ((((((0 : Int32) + (1 : Int32)) + (1 : Int32)) + (1 : Int32)) + (1 : Int32)) + (1 : Int32))), (1, .int ((((((0 : Int32) + (1 : Int32)) + (1 : Int32)) + (1 : Int32)) + (1 : Int32)) + (1 : Int32))), (3, .int ((((((0 : Int32) + (1 : Int32)) + (1 : Int32)) + (1 : Int32)) + (1 : Int32)) + (1 : Int32))), (0, .ref E.2.2.2.2.2.2.1), (2, .ref q), (4, .int (7 : Int32))]) C dJ1_inflate_03870_27 2 rfl (ii (by decide)) (by decide) rfl ?_
  refine g_goto (tgt := 3) C dJ1_inflate_03870_30 (by decide) ?_
  refine g_iload C dJ1_inflate_03870_3 0 rfl ?_
  refine g_iload C dJ1_inflate_03870_5 5 rfl ?_
  refine g_icmp_ge (tgt := 33) C dJ1_inflate_03870_7 (by decide) (fun c3 => absurd c3 (by decide)) (fun _ => ?_)
  refine g_aload_n C dJ1_inflate_03870_10 rfl 4 rfl ?_
  refine g_iload_n C dJ1_inflate_03870_11 rfl 2 rfl ?_
  refine g_iinc (v := (((((((0 : Int32) + (1 : Int32)) + (1 : Int32)) + (1 : Int32)) + (1 : Int32)) + (1 : Int32)) + (1 : Int32))) (lv2 := [(3, .int (((((((0 : Int32) + (1 : Int32)) + (1 : Int32)) + (1 : Int32)) + (1 : Int32)) + (1 : Int32)) + (1 : Int32))), (5, .int ((((((0 : Int32) + (1 : Int32)) + (1 : Int32)) + (1 : Int32)) + (1 : Int32)) + (1 : Int32))), (1, .int ((((((0 : Int32) + (1 : Int32)) + (1 : Int32)) + (1 : Int32)) + (1 : Int32)) + (1 : Int32))), (0, .ref E.2.2.2.2.2.2.1), (2, .ref q), (4, .int (7 : Int32))]) C dJ1_inflate_03870_12 2 rfl (ii (by decide)) (by decide) rfl ?_
  refine g_aload_n C dJ1_inflate_03870_15 rfl 3 rfl ?_
  refine g_iload_n C dJ1_inflate_03870_16 rfl 2 rfl ?_
  refine g_iinc (v := (((((((0 : Int32) + (1 : Int32)) + (1 : Int32)) + (1 : Int32)) + (1 : Int32)) + (1 : Int32)) + (1 : Int32))) (lv2 := [(1, .int (((((((0 : Int32) + (1 : Int32)) + (1 : Int32)) + (1 : Int32)) + (1 : Int32)) + (1 : Int32)) + (1 : Int32))), (3, .int (((((((0 : Int32) + (1 : Int32)) + (1 : Int32)) + (1 : Int32)) + (1 : Int32)) + (1 : Int32)) + (1 : Int32))), (5, .int ((((((0 : Int32) + (1 : Int32)) + (1 : Int32)) + (1 : Int32)) + (1 : Int32)) + (1 : Int32))), (0, .ref E.2.2.2.2.2.2.1), (2, .ref q), (4, .int (7 : Int32))]) C dJ1_inflate_03870_17 2 rfl (ii (by decide)) (by decide) rfl ?_
  refine g_tb (f := fun j => lstB.getD j 0) C (fun _ _ _ h => h.2.2.2.1.2.2.2) (by show ¬ (_ ∨ _); decide) dJ1_inflate_03870_20 ?_
  refine g_sipush (v := (255 : Int32)) C dJ1_inflate_03870_21 (by decide) ?_
  refine g_iand C dJ1_inflate_03870_24 ?_
  refine g_i2c C dJ1_inflate_03870_25 ?_
  refine g_cast (Y2 := [[(q, .inl (E.2.1.2.1, 7, .inl (upd (upd (upd (upd (upd (upd (fun _ => 0) (Int32.toNatClampNeg (0 : Int32)) (vp_nar .char ((Int32.toUInt32 ((lstB.getD (Int32.toNatClampNeg (0 : Int32)) 0) &&& (255 : Int32)) % 65536).toInt32))) (Int32.toNatClampNeg ((0 : Int32) + (1 : Int32))) (vp_nar .char ((Int32.toUInt32 ((lstB.getD (Int32.toNatClampNeg ((0 : Int32) + (1 : Int32))) 0) &&& (255 : Int32)) % 65536).toInt32))) (Int32.toNatClampNeg (((0 : Int32) + (1 : Int32)) + (1 : Int32))) (vp_nar .char ((Int32.toUInt32 ((lstB.getD (Int32.toNatClampNeg (((0 : Int32) + (1 : Int32)) + (1 : Int32))) 0) &&& (255 : Int32)) % 65536).toInt32))) (Int32.toNatClampNeg ((((0 : Int32) + (1 : Int32)) + (1 : Int32)) + (1 : Int32))) (vp_nar .char ((Int32.toUInt32 ((lstB.getD (Int32.toNatClampNeg ((((0 : Int32) + (1 : Int32)) + (1 : Int32)) + (1 : Int32))) 0) &&& (255 : Int32)) % 65536).toInt32))) (Int32.toNatClampNeg (((((0 : Int32) + (1 : Int32)) + (1 : Int32)) + (1 : Int32)) + (1 : Int32))) (vp_nar .char ((Int32.toUInt32 ((lstB.getD (Int32.toNatClampNeg (((((0 : Int32) + (1 : Int32)) + (1 : Int32)) + (1 : Int32)) + (1 : Int32))) 0) &&& (255 : Int32)) % 65536).toInt32))) (Int32.toNatClampNeg ((((((0 : Int32) + (1 : Int32)) + (1 : Int32)) + (1 : Int32)) + (1 : Int32)) + (1 : Int32))) (vp_nar .char ((Int32.toUInt32 ((lstB.getD (Int32.toNatClampNeg ((((((0 : Int32) + (1 : Int32)) + (1 : Int32)) + (1 : Int32)) + (1 : Int32)) + (1 : Int32))) 0) &&& (255 : Int32)) % 65536).toInt32)))))]]) C 0 0 rfl rfl (by show ¬ (_ ∨ _); decide) dJ1_inflate_03870_26 rfl ?_
  refine g_iinc (v := (((((((0 : Int32) + (1 : Int32)) + (1 : Int32)) + (1 : Int32)) + (1 : Int32)) + (1 : Int32)) + (1 : Int32))) (lv2 := [(5, .int (((((((0 : Int32) + (1 : Int32)) + (1 : Int32)) + (1 : Int32)) + (1 : Int32)) + (1 : Int32)) + (1 : Int32))), (1, .int (((((((0 : Int32) + (1 : Int32)) + (1 : Int32)) + (1 : Int32)) + (1 : Int32)) + (1 : Int32)) + (1 : Int32))), (3, .int (((((((0 : Int32) + (1 : Int32)) + (1 : Int32)) + (1 : Int32)) + (1 : Int32)) + (1 : Int32)) + (1 : Int32))), (0, .ref E.2.2.2.2.2.2.1), (2, .ref q), (4, .int (7 : Int32))]) C dJ1_inflate_03870_27 2 rfl (ii (by decide)) (by decide) rfl ?_
  refine g_goto (tgt := 3) C dJ1_inflate_03870_30 (by decide) ?_
  refine g_iload C dJ1_inflate_03870_3 0 rfl ?_
  refine g_iload C dJ1_inflate_03870_5 5 rfl ?_
  refine g_icmp_ge (tgt := 33) C dJ1_inflate_03870_7 (by decide) (fun c2 => absurd c2 (by decide)) (fun _ => ?_)
  refine g_aload_n C dJ1_inflate_03870_10 rfl 4 rfl ?_
  refine g_iload_n C dJ1_inflate_03870_11 rfl 2 rfl ?_
  refine g_iinc (v := ((((((((0 : Int32) + (1 : Int32)) + (1 : Int32)) + (1 : Int32)) + (1 : Int32)) + (1 : Int32)) + (1 : Int32)) + (1 : Int32))) (lv2 := [(3, .int ((((((((0 : Int32) + (1 : Int32)) + (1 : Int32)) + (1 : Int32)) + (1 : Int32)) + (1 : Int32)) + (1 : Int32)) + (1 : Int32))), (5, .int (((((((0 : Int32) + (1 : Int32)) + (1 : Int32)) + (1 : Int32)) + (1 : Int32)) + (1 : Int32)) + (1 : Int32))), (1, .int (((((((0 : Int32) + (1 : Int32)) + (1 : Int32)) + (1 : Int32)) + (1 : Int32)) + (1 : Int32)) + (1 : Int32))), (0, .ref E.2.2.2.2.2.2.1), (2, .ref q), (4, .int (7 : Int32))]) C dJ1_inflate_03870_12 2 rfl (ii (by decide)) (by decide) rfl ?_
  refine g_aload_n C dJ1_inflate_03870_15 rfl 3 rfl ?_
  refine g_iload_n C dJ1_inflate_03870_16 rfl 2 rfl ?_
  refine g_iinc (v := ((((((((0 : Int32) + (1 : Int32)) + (1 : Int32)) + (1 : Int32)) + (1 : Int32)) + (1 : Int32)) + (1 : Int32)) + (1 : Int32))) (lv2 := [(1, .int ((((((((0 : Int32) + (1 : Int32)) + (1 : Int32)) + (1 : Int32)) + (1 : Int32)) + (1 : Int32)) + (1 : Int32)) + (1 : Int32))), (3, .int ((((((((0 : Int32) + (1 : Int32)) + (1 : Int32)) + (1 : Int32)) + (1 : Int32)) + (1 : Int32)) + (1 : Int32)) + (1 : Int32))), (5, .int (((((((0 : Int32) + (1 : Int32)) + (1 : Int32)) + (1 : Int32)) + (1 : Int32)) + (1 : Int32)) + (1 : Int32))), (0, .ref E.2.2.2.2.2.2.1), (2, .ref q), (4, .int (7 : Int32))]) C dJ1_inflate_03870_17 2 rfl (ii (by decide)) (by decide) rfl ?_
  refine g_tb (f := fun j => lstB.getD j 0) C (fun _ _ _ h => h.2.2.2.1.2.2.2) (by show ¬ (_ ∨ _); decide) dJ1_inflate_03870_20 ?_
  refine g_sipush (v := (255 : Int32)) C dJ1_inflate_03870_21 (by decide) ?_
  refine g_iand C dJ1_inflate_03870_24 ?_
  refine g_i2c C dJ1_inflate_03870_25 ?_
  refine g_cast (Y2 := [[(q, .inl (E.2.1.2.1, 7, .inl (upd (upd (upd (upd (upd (upd (upd (fun _ => 0) (Int32.toNatClampNeg (0 : Int32)) (vp_nar .char ((Int32.toUInt32 ((lstB.getD (Int32.toNatClampNeg (0 : Int32)) 0) &&& (255 : Int32)) % 65536).toInt32))) (Int32.toNatClampNeg ((0 : Int32) + (1 : Int32))) (vp_nar .char ((Int32.toUInt32 ((lstB.getD (Int32.toNatClampNeg ((0 : Int32) + (1 : Int32))) 0) &&& (255 : Int32)) % 65536).toInt32))) (Int32.toNatClampNeg (((0 : Int32) + (1 : Int32)) + (1 : Int32))) (vp_nar .char ((Int32.toUInt32 ((lstB.getD (Int32.toNatClampNeg (((0 : Int32) + (1 : Int32)) + (1 : Int32))) 0) &&& (255 : Int32)) % 65536).toInt32))) (Int32.toNatClampNeg ((((0 : Int32) + (1 : Int32)) + (1 : Int32)) + (1 : Int32))) (vp_nar .char ((Int32.toUInt32 ((lstB.getD (Int32.toNatClampNeg ((((0 : Int32) + (1 : Int32)) + (1 : Int32)) + (1 : Int32))) 0) &&& (255 : Int32)) % 65536).toInt32))) (Int32.toNatClampNeg (((((0 : Int32) + (1 : Int32)) + (1 : Int32)) + (1 : Int32)) + (1 : Int32))) (vp_nar .char ((Int32.toUInt32 ((lstB.getD (Int32.toNatClampNeg (((((0 : Int32) + (1 : Int32)) + (1 : Int32)) + (1 : Int32)) + (1 : Int32))) 0) &&& (255 : Int32)) % 65536).toInt32))) (Int32.toNatClampNeg ((((((0 : Int32) + (1 : Int32)) + (1 : Int32)) + (1 : Int32)) + (1 : Int32)) + (1 : Int32))) (vp_nar .char ((Int32.toUInt32 ((lstB.getD (Int32.toNatClampNeg ((((((0 : Int32) + (1 : Int32)) + (1 : Int32)) + (1 : Int32)) + (1 : Int32)) + (1 : Int32))) 0) &&& (255 : Int32)) % 65536).toInt32))) (Int32.toNatClampNeg (((((((0 : Int32) + (1 : Int32)) + (1 : Int32)) + (1 : Int32)) + (1 : Int32)) + (1 : Int32)) + (1 : Int32))) (vp_nar .char ((Int32.toUInt32 ((lstB.getD (Int32.toNatClampNeg (((((((0 : Int32) + (1 : Int32)) + (1 : Int32)) + (1 : Int32)) + (1 : Int32)) + (1 : Int32)) + (1 : Int32))) 0) &&& (255 : Int32)) % 65536).toInt32)))))]]) C 0 0 rfl rfl (by show ¬ (_ ∨ _); decide) dJ1_inflate_03870_26 rfl ?_
  refine g_iinc (v := ((((((((0 : Int32) + (1 : Int32)) + (1 : Int32)) + (1 : Int32)) + (1 : Int32)) + (1 : Int32)) + (1 : Int32)) + (1 : Int32))) (lv2 := [(5, .int ((((((((0 : Int32) + (1 : Int32)) + (1 : Int32)) + (1 : Int32)) + (1 : Int32)) + (1 : Int32)) + (1 : Int32)) + (1 : Int32))), (1, .int ((((((((0 : Int32) + (1 : Int32)) + (1 : Int32)) + (1 : Int32)) + (1 : Int32)) + (1 : Int32)) + (1 : Int32)) + (1 : Int32))), (3, .int ((((((((0 : Int32) + (1 : Int32)) + (1 : Int32)) + (1 : Int32)) + (1 : Int32)) + (1 : Int32)) + (1 : Int32)) + (1 : Int32))), (0, .ref E.2.2.2.2.2.2.1), (2, .ref q), (4, .int (7 : Int32))]) C dJ1_inflate_03870_27 2 rfl (ii (by decide)) (by decide) rfl ?_
  refine g_goto (tgt := 3) C dJ1_inflate_03870_30 (by decide) ?_
  refine g_iload C dJ1_inflate_03870_3 0 rfl ?_
  refine g_iload C dJ1_inflate_03870_5 5 rfl ?_
  refine g_icmp_ge (tgt := 33) C dJ1_inflate_03870_7 (by decide) (fun _ => ?_) (fun c1 => absurd c1 (by decide))
  exact g_ret C K dJ1_inflate_03870_33 (Nat.le_of_ble_eq_true rfl) (Nat.le_of_ble_eq_true rfl) ⟨rfl, rfl⟩
def chr7a : Fn := chr7
abbrev rm_J1_toChars_9d188 : Room := { frames := 1, cells := 1, slots := 7, locals := 25 }
set_option maxRecDepth 100000 in
theorem k_J1_toChars_9d188 : CFs yJ1_toChars_9d188 cJ1_toChars_9d188 2 (some (.array .char)) 1 := ⟨mt_73, mt_5, mt_74, ⟨by decide +kernel, by decide +kernel, by decide +kernel⟩⟩
set_option maxHeartbeats 4000000 in
set_option maxRecDepth 100000 in
theorem c_J1_toChars_9d188 {E : Ev} : ∀ l, MG l yJ1_toChars_9d188 cJ1_toChars_9d188 2 (some (.array .char)) rm_J1_toChars_9d188 E [.ref E.2.2.2.2.2.2.1] [] (fun v Y => ∃ q : Nat, v = some (.ref q) ∧ Y = [[(q, .inl (E.2.1.2.1, 7, .inl chr7a))]]) := by
  refine MG.mk (own := RJ1) (lv0 := [(0, .ref E.2.2.2.2.2.2.1)]) (by decide) rfl (Nat.le_of_ble_eq_true rfl) rfl (fun X C K I => ?_)
  refine g_aload_n C dJ1_toChars_9d188_0 rfl 0 rfl ?_
  refine g_tlen (f := fun j => lstB.getD j 0) C (fun _ _ _ h => h.2.2.2.1.2.2.2) dJ1_toChars_9d188_1 ?_
  refine g_newC (N := 7) C mt_38 (by decide) (by decide) (by decide) (Nat.le_of_ble_eq_true rfl) (Nat.le_of_ble_eq_true rfl) dJ1_toChars_9d188_2 (fun q1 => ?_)
  show G E X 2 [[(q1, .inl (E.2.1.2.1, 7, .inl (fun _ => 0)))]] 1 7 [(0, .ref E.2.2.2.2.2.2.1)] [.ref q1] 4
  refine g_astore_n (lv2 := [(1, .ref q1), (0, .ref E.2.2.2.2.2.2.1)]) C dJ1_toChars_9d188_4 rfl (by decide) rfl ?_
  refine g_aload_n C dJ1_toChars_9d188_5 rfl 1 rfl ?_
  refine g_iconst (v := (0 : Int32)) C dJ1_toChars_9d188_6 (by decide) ?_
  refine g_aload_n C dJ1_toChars_9d188_7 rfl 0 rfl ?_
  refine g_iconst (v := (0 : Int32)) C dJ1_toChars_9d188_8 (by decide) ?_
  refine g_aload_n C dJ1_toChars_9d188_9 rfl 1 rfl ?_
  refine g_tlen (f := fun j => lstB.getD j 0) C (fun _ _ _ h => h.2.2.2.1.2.2.2) dJ1_toChars_9d188_10 ?_
  refine g_callS (As := [.ref E.2.2.2.2.2.2.1, .int (0 : Int32), .ref q1, .int (0 : Int32), .int (7 : Int32)]) (rest := []) C k_J1_inflate_03870 (fun l => c_J1_inflate_03870 (E := E) (q := q1) l) mt_75 [0] rfl (by decide) rfl (Nat.le_of_ble_eq_true rfl) ⟨Nat.le_of_ble_eq_true rfl, Nat.le_of_ble_eq_true rfl, Nat.le_of_ble_eq_true rfl, Nat.le_of_ble_eq_true rfl⟩ dJ1_toChars_9d188_11 ?_
  rintro _ _ ⟨rfl, rfl⟩
  show G E X 2 [[(q1, .inl (E.2.1.2.1, 7, .inl chr7))]] 1 7 [(1, .ref q1), (0, .ref E.2.2.2.2.2.2.1)] [] 14
  refine g_aload_n C dJ1_toChars_9d188_14 rfl 0 rfl ?_
  exact g_aret C K (Or.inr ⟨_, rfl⟩) dJ1_toChars_9d188_15 (Nat.le_of_ble_eq_true rfl) (Nat.le_of_ble_eq_true rfl) ⟨q1, rfl, rfl⟩
def chr7b : Fn := chr7a
abbrev rm_J0_toCharArray_70df3 : Room := { frames := 2, cells := 1, slots := 7, locals := 46 }
set_option maxRecDepth 100000 in
theorem k_J0_toCharArray_70df3 : CF yJ0_toCharArray_70df3 cJ0_toCharArray_70df3 1 (some (.array .char)) 0 := ⟨mt_63, mt_64, mt_4, mt_65, ⟨rfl, by decide +kernel, by decide +kernel, by decide +kernel⟩⟩
set_option maxHeartbeats 4000000 in
set_option maxRecDepth 100000 in
theorem c_J0_toCharArray_70df3 {E : Ev} : ∀ l, MG l yJ0_toCharArray_70df3 cJ0_toCharArray_70df3 1 (some (.array .char)) rm_J0_toCharArray_70df3 E [.ref E.2.2.2.2.2.1] [] (fun v Y => ∃ q : Nat, v = some (.ref q) ∧ Y = [[(q, .inl (E.2.1.2.1, 7, .inl chr7b))]]) := by
  refine MG.mk (own := RJ0) (lv0 := [(0, .ref E.2.2.2.2.2.1)]) (by decide) rfl (Nat.le_of_ble_eq_true rfl) rfl (fun X C K I => ?_)
  refine g_aload_n C dJ0_toCharArray_70df3_0 rfl 0 rfl ?_
  refine g_callVK (As := []) (rest := []) C k_J0_isLatin1_aae02 (fun l => c_J0_isLatin1_aae02 (E := E) l) mt_66 (fun _ _ _ h => h.2.2.2.1.1) [] rfl (by decide) rfl (Nat.le_of_ble_eq_true rfl) ⟨Nat.le_of_ble_eq_true rfl, Nat.le_of_ble_eq_true rfl, Nat.le_of_ble_eq_true rfl, Nat.le_of_ble_eq_true rfl⟩ dJ0_toCharArray_70df3_1 ?_
  rintro _ _ ⟨rfl, rfl⟩
  show G E X 1 [] 0 0 [(0, .ref E.2.2.2.2.2.1)] [.int (1 : Int32)] 4
  refine g_if_eq (tgt := 17) C dJ0_toCharArray_70df3_4 (by decide) (fun c2 => absurd c2 (by decide)) (fun _ => ?_)
  refine g_aload_n C dJ0_toCharArray_70df3_7 rfl 0 rfl ?_
  refine g_skf (v := .ref E.2.2.2.2.2.2.1) C (fun _ _ _ h => h.2.2.2.1.2.2.1) mt_638 rfl dJ0_toCharArray_70df3_8 ?_
  refine g_callS (As := [.ref E.2.2.2.2.2.2.1]) (rest := []) C k_J1_toChars_9d188 (fun l => c_J1_toChars_9d188 (E := E) l) mt_72 [] rfl (by decide) rfl (Nat.le_of_ble_eq_true rfl) ⟨Nat.le_of_ble_eq_true rfl, Nat.le_of_ble_eq_true rfl, Nat.le_of_ble_eq_true rfl, Nat.le_of_ble_eq_true rfl⟩ dJ0_toCharArray_70df3_11 ?_
  rintro _ _ ⟨q1, rfl, rfl⟩
  show G E X 1 [[(q1, .inl (E.2.1.2.1, 7, .inl chr7a))]] 1 7 [(0, .ref E.2.2.2.2.2.1)] [.ref q1] 14
  refine g_goto (tgt := 24) C dJ0_toCharArray_70df3_14 (by decide) ?_
  exact g_aret C K (Or.inr ⟨_, rfl⟩) dJ0_toCharArray_70df3_24 (Nat.le_of_ble_eq_true rfl) (Nat.le_of_ble_eq_true rfl) ⟨q1, rfl, rfl⟩
