def f_X4_copy (V : St) (Vy : St) : Option (St) := some ((va_cpy Vy.1 V.1 (Int32.toNatClampNeg (0 : Int32)) (Int32.toNatClampNeg (0 : Int32)) (Int32.toNatClampNeg (7 : Int32))), (va_cpy Vy.2.1 V.2.1 (Int32.toNatClampNeg (0 : Int32)) (Int32.toNatClampNeg (0 : Int32)) (Int32.toNatClampNeg (20 : Int32))), (va_cpy Vy.2.2.1 V.2.2.1 (Int32.toNatClampNeg (0 : Int32)) (Int32.toNatClampNeg (0 : Int32)) (Int32.toNatClampNeg (20 : Int32))), (va_cpy Vy.2.2.2.1 V.2.2.2.1 (Int32.toNatClampNeg (0 : Int32)) (Int32.toNatClampNeg (0 : Int32)) (Int32.toNatClampNeg (20 : Int32))), (va_cpy Vy.2.2.2.2.1 V.2.2.2.2.1 (Int32.toNatClampNeg (0 : Int32)) (Int32.toNatClampNeg (0 : Int32)) (Int32.toNatClampNeg (4 : Int32))), (va_cpy Vy.2.2.2.2.2.1 V.2.2.2.2.2.1 (Int32.toNatClampNeg (0 : Int32)) (Int32.toNatClampNeg (0 : Int32)) (Int32.toNatClampNeg (30 : Int32))), Vy.2.2.2.2.2.2.1, Vy.2.2.2.2.2.2.2.1, Vy.2.2.2.2.2.2.2.2.1, Vy.2.2.2.2.2.2.2.2.2.1, Vy.2.2.2.2.2.2.2.2.2.2.1, Vy.2.2.2.2.2.2.2.2.2.2.2.1, Vy.2.2.2.2.2.2.2.2.2.2.2.2.1, Vy.2.2.2.2.2.2.2.2.2.2.2.2.2.1, Vy.2.2.2.2.2.2.2.2.2.2.2.2.2.2.1, Vy.2.2.2.2.2.2.2.2.2.2.2.2.2.2.2.1, Vy.2.2.2.2.2.2.2.2.2.2.2.2.2.2.2.2.1, Vy.2.2.2.2.2.2.2.2.2.2.2.2.2.2.2.2.2)
abbrev rm_X4_copy : Room := { frames := 1, cells := 0, slots := 0, locals := 20 }
set_option maxRecDepth 100000 in
theorem k_X4_copy : CF yX4_copy cX4_copy 2 (Option.none : Option FieldType) 1 := ⟨mt_332, mt_333, mt_10, mt_334, ⟨rfl, by decide +kernel, by decide +kernel, by decide +kernel⟩⟩
set_option maxHeartbeats 4000000 in
set_option maxRecDepth 100000 in
theorem c_X4_copy {E : Ev} {a : Nat → Nat} {V : St} {ay : Nat → Nat} {Vy : St} {o : St} (hf : f_X4_copy V Vy = some o) : ∀ l, MG l yX4_copy cX4_copy 2 (Option.none : Option FieldType) rm_X4_copy E [.ref (a 0), .ref (ay 0)] [sc E a V, sc E ay Vy] (fun v Y => v = none ∧ Y = [sc E a o, sc E ay Vy]) := by
  refine MG.mk (own := RX4) (lv0 := [(0, .ref (a 0)), (1, .ref (ay 0))]) (by decide) rfl (Nat.le_of_ble_eq_true rfl) rfl (fun X C K I => ?_)
  unfold f_X4_copy at hf
  refine g_aload_n C dX4_copy_0 rfl 1 rfl ?_
  refine g_get (Cl := RX4) (T := TX4) (N := 18) C mi_X4 1 rfl (List.mem_of_getElem? (i := 0) rfl) rfl 0 (by decide) mt_210 rfl rfl dX4_copy_1 ?_
  refine g_iconst (v := (0 : Int32)) C dX4_copy_4 (by decide) ?_
  refine g_aload_n C dX4_copy_5 rfl 0 rfl ?_
  refine g_get (Cl := RX4) (T := TX4) (N := 18) C mi_X4 0 rfl (List.mem_of_getElem? (i := 0) rfl) rfl 0 (by decide) mt_210 rfl rfl dX4_copy_6 ?_
  refine g_iconst (v := (0 : Int32)) C dX4_copy_9 (by decide) ?_
  refine g_bipush (v := (7 : Int32)) C dX4_copy_10 (by decide) ?_
  refine g_copyi (Y2 := [sc E a ((va_cpy Vy.1 V.1 (Int32.toNatClampNeg (0 : Int32)) (Int32.toNatClampNeg (0 : Int32)) (Int32.toNatClampNeg (7 : Int32))), V.2.1, V.2.2.1, V.2.2.2.1, V.2.2.2.2.1, V.2.2.2.2.2.1, V.2.2.2.2.2.2.1, V.2.2.2.2.2.2.2.1, V.2.2.2.2.2.2.2.2.1, V.2.2.2.2.2.2.2.2.2.1, V.2.2.2.2.2.2.2.2.2.2.1, V.2.2.2.2.2.2.2.2.2.2.2.1, V.2.2.2.2.2.2.2.2.2.2.2.2.1, V.2.2.2.2.2.2.2.2.2.2.2.2.2.1, V.2.2.2.2.2.2.2.2.2.2.2.2.2.2.1, V.2.2.2.2.2.2.2.2.2.2.2.2.2.2.2.1, V.2.2.2.2.2.2.2.2.2.2.2.2.2.2.2.2.1, V.2.2.2.2.2.2.2.2.2.2.2.2.2.2.2.2.2), sc E ay Vy]) C mt_207 mt_209 mt_208 mt_11 1 0 1 rfl (List.mem_of_getElem? (i := 1) rfl) rfl rfl (by decide) (by decide) (by decide) (by decide) (by decide) (Nat.le_of_ble_eq_true rfl) (Nat.le_of_ble_eq_true rfl) dX4_copy_12 rfl ?_
  refine g_aload_n C dX4_copy_15 rfl 1 rfl ?_
  refine g_get (Cl := RX4) (T := TX4) (N := 18) C mi_X4 1 rfl (List.mem_of_getElem? (i := 0) rfl) rfl 1 (by decide) mt_212 rfl rfl dX4_copy_16 ?_
  refine g_iconst (v := (0 : Int32)) C dX4_copy_19 (by decide) ?_
  refine g_aload_n C dX4_copy_20 rfl 0 rfl ?_
  refine g_get (Cl := RX4) (T := TX4) (N := 18) C mi_X4 0 rfl (List.mem_of_getElem? (i := 0) rfl) rfl 1 (by decide) mt_212 rfl rfl dX4_copy_21 ?_
  refine g_iconst (v := (0 : Int32)) C dX4_copy_24 (by decide) ?_
  refine g_bipush (v := (20 : Int32)) C dX4_copy_25 (by decide) ?_
  refine g_copyi (Y2 := [sc E a ((va_cpy Vy.1 V.1 (Int32.toNatClampNeg (0 : Int32)) (Int32.toNatClampNeg (0 : Int32)) (Int32.toNatClampNeg (7 : Int32))), (va_cpy Vy.2.1 V.2.1 (Int32.toNatClampNeg (0 : Int32)) (Int32.toNatClampNeg (0 : Int32)) (Int32.toNatClampNeg (20 : Int32))), V.2.2.1, V.2.2.2.1, V.2.2.2.2.1, V.2.2.2.2.2.1, V.2.2.2.2.2.2.1, V.2.2.2.2.2.2.2.1, V.2.2.2.2.2.2.2.2.1, V.2.2.2.2.2.2.2.2.2.1, V.2.2.2.2.2.2.2.2.2.2.1, V.2.2.2.2.2.2.2.2.2.2.2.1, V.2.2.2.2.2.2.2.2.2.2.2.2.1, V.2.2.2.2.2.2.2.2.2.2.2.2.2.1, V.2.2.2.2.2.2.2.2.2.2.2.2.2.2.1, V.2.2.2.2.2.2.2.2.2.2.2.2.2.2.2.1, V.2.2.2.2.2.2.2.2.2.2.2.2.2.2.2.2.1, V.2.2.2.2.2.2.2.2.2.2.2.2.2.2.2.2.2), sc E ay Vy]) C mt_207 mt_209 mt_208 mt_11 1 0 2 rfl (List.mem_of_getElem? (i := 2) rfl) rfl rfl (by decide) (by decide) (by decide) (by decide) (by decide) (Nat.le_of_ble_eq_true rfl) (Nat.le_of_ble_eq_true rfl) dX4_copy_27 rfl ?_
  refine g_aload_n C dX4_copy_30 rfl 1 rfl ?_
  refine g_get (Cl := RX4) (T := TX4) (N := 18) C mi_X4 1 rfl (List.mem_of_getElem? (i := 0) rfl) rfl 2 (by decide) mt_214 rfl rfl dX4_copy_31 ?_
  refine g_iconst (v := (0 : Int32)) C dX4_copy_34 (by decide) ?_
  refine g_aload_n C dX4_copy_35 rfl 0 rfl ?_
  refine g_get (Cl := RX4) (T := TX4) (N := 18) C mi_X4 0 rfl (List.mem_of_getElem? (i := 0) rfl) rfl 2 (by decide) mt_214 rfl rfl dX4_copy_36 ?_
  refine g_iconst (v := (0 : Int32)) C dX4_copy_39 (by decide) ?_
  refine g_bipush (v := (20 : Int32)) C dX4_copy_40 (by decide) ?_
  refine g_copyi (Y2 := [sc E a ((va_cpy Vy.1 V.1 (Int32.toNatClampNeg (0 : Int32)) (Int32.toNatClampNeg (0 : Int32)) (Int32.toNatClampNeg (7 : Int32))), (va_cpy Vy.2.1 V.2.1 (Int32.toNatClampNeg (0 : Int32)) (Int32.toNatClampNeg (0 : Int32)) (Int32.toNatClampNeg (20 : Int32))), (va_cpy Vy.2.2.1 V.2.2.1 (Int32.toNatClampNeg (0 : Int32)) (Int32.toNatClampNeg (0 : Int32)) (Int32.toNatClampNeg (20 : Int32))), V.2.2.2.1, V.2.2.2.2.1, V.2.2.2.2.2.1, V.2.2.2.2.2.2.1, V.2.2.2.2.2.2.2.1, V.2.2.2.2.2.2.2.2.1, V.2.2.2.2.2.2.2.2.2.1, V.2.2.2.2.2.2.2.2.2.2.1, V.2.2.2.2.2.2.2.2.2.2.2.1, V.2.2.2.2.2.2.2.2.2.2.2.2.1, V.2.2.2.2.2.2.2.2.2.2.2.2.2.1, V.2.2.2.2.2.2.2.2.2.2.2.2.2.2.1, V.2.2.2.2.2.2.2.2.2.2.2.2.2.2.2.1, V.2.2.2.2.2.2.2.2.2.2.2.2.2.2.2.2.1, V.2.2.2.2.2.2.2.2.2.2.2.2.2.2.2.2.2), sc E ay Vy]) C mt_207 mt_209 mt_208 mt_11 1 0 3 rfl (List.mem_of_getElem? (i := 3) rfl) rfl rfl (by decide) (by decide) (by decide) (by decide) (by decide) (Nat.le_of_ble_eq_true rfl) (Nat.le_of_ble_eq_true rfl) dX4_copy_42 rfl ?_
  refine g_aload_n C dX4_copy_45 rfl 1 rfl ?_
  refine g_get (Cl := RX4) (T := TX4) (N := 18) C mi_X4 1 rfl (List.mem_of_getElem? (i := 0) rfl) rfl 3 (by decide) mt_216 rfl rfl dX4_copy_46 ?_
  refine g_iconst (v := (0 : Int32)) C dX4_copy_49 (by decide) ?_
  refine g_aload_n C dX4_copy_50 rfl 0 rfl ?_
  refine g_get (Cl := RX4) (T := TX4) (N := 18) C mi_X4 0 rfl (List.mem_of_getElem? (i := 0) rfl) rfl 3 (by decide) mt_216 rfl rfl dX4_copy_51 ?_
  refine g_iconst (v := (0 : Int32)) C dX4_copy_54 (by decide) ?_
  refine g_bipush (v := (20 : Int32)) C dX4_copy_55 (by decide) ?_
  refine g_copyi (Y2 := [sc E a ((va_cpy Vy.1 V.1 (Int32.toNatClampNeg (0 : Int32)) (Int32.toNatClampNeg (0 : Int32)) (Int32.toNatClampNeg (7 : Int32))), (va_cpy Vy.2.1 V.2.1 (Int32.toNatClampNeg (0 : Int32)) (Int32.toNatClampNeg (0 : Int32)) (Int32.toNatClampNeg (20 : Int32))), (va_cpy Vy.2.2.1 V.2.2.1 (Int32.toNatClampNeg (0 : Int32)) (Int32.toNatClampNeg (0 : Int32)) (Int32.toNatClampNeg (20 : Int32))), (va_cpy Vy.2.2.2.1 V.2.2.2.1 (Int32.toNatClampNeg (0 : Int32)) (Int32.toNatClampNeg (0 : Int32)) (Int32.toNatClampNeg (20 : Int32))), V.2.2.2.2.1, V.2.2.2.2.2.1, V.2.2.2.2.2.2.1, V.2.2.2.2.2.2.2.1, V.2.2.2.2.2.2.2.2.1, V.2.2.2.2.2.2.2.2.2.1, V.2.2.2.2.2.2.2.2.2.2.1, V.2.2.2.2.2.2.2.2.2.2.2.1, V.2.2.2.2.2.2.2.2.2.2.2.2.1, V.2.2.2.2.2.2.2.2.2.2.2.2.2.1, V.2.2.2.2.2.2.2.2.2.2.2.2.2.2.1, V.2.2.2.2.2.2.2.2.2.2.2.2.2.2.2.1, V.2.2.2.2.2.2.2.2.2.2.2.2.2.2.2.2.1, V.2.2.2.2.2.2.2.2.2.2.2.2.2.2.2.2.2), sc E ay Vy]) C mt_207 mt_209 mt_208 mt_11 1 0 4 rfl (List.mem_of_getElem? (i := 4) rfl) rfl rfl (by decide) (by decide) (by decide) (by decide) (by decide) (Nat.le_of_ble_eq_true rfl) (Nat.le_of_ble_eq_true rfl) dX4_copy_57 rfl ?_
  refine g_aload_n C dX4_copy_60 rfl 1 rfl ?_
  refine g_get (Cl := RX4) (T := TX4) (N := 18) C mi_X4 1 rfl (List.mem_of_getElem? (i := 0) rfl) rfl 4 (by decide) mt_218 rfl rfl dX4_copy_61 ?_
  refine g_iconst (v := (0 : Int32)) C dX4_copy_64 (by decide) ?_
  refine g_aload_n C dX4_copy_65 rfl 0 rfl ?_
  refine g_get (Cl := RX4) (T := TX4) (N := 18) C mi_X4 0 rfl (List.mem_of_getElem? (i := 0) rfl) rfl 4 (by decide) mt_218 rfl rfl dX4_copy_66 ?_
  refine g_iconst (v := (0 : Int32)) C dX4_copy_69 (by decide) ?_
  refine g_iconst (v := (4 : Int32)) C dX4_copy_70 (by decide) ?_
  refine g_copyi (Y2 := [sc E a ((va_cpy Vy.1 V.1 (Int32.toNatClampNeg (0 : Int32)) (Int32.toNatClampNeg (0 : Int32)) (Int32.toNatClampNeg (7 : Int32))), (va_cpy Vy.2.1 V.2.1 (Int32.toNatClampNeg (0 : Int32)) (Int32.toNatClampNeg (0 : Int32)) (Int32.toNatClampNeg (20 : Int32))), (va_cpy Vy.2.2.1 V.2.2.1 (Int32.toNatClampNeg (0 : Int32)) (Int32.toNatClampNeg (0 : Int32)) (Int32.toNatClampNeg (20 : Int32))), (va_cpy Vy.2.2.2.1 V.2.2.2.1 (Int32.toNatClampNeg (0 : Int32)) (Int32.toNatClampNeg (0 : Int32)) (Int32.toNatClampNeg (20 : Int32))), (va_cpy Vy.2.2.2.2.1 V.2.2.2.2.1 (Int32.toNatClampNeg (0 : Int32)) (Int32.toNatClampNeg (0 : Int32)) (Int32.toNatClampNeg (4 : Int32))), V.2.2.2.2.2.1, V.2.2.2.2.2.2.1, V.2.2.2.2.2.2.2.1, V.2.2.2.2.2.2.2.2.1, V.2.2.2.2.2.2.2.2.2.1, V.2.2.2.2.2.2.2.2.2.2.1, V.2.2.2.2.2.2.2.2.2.2.2.1, V.2.2.2.2.2.2.2.2.2.2.2.2.1, V.2.2.2.2.2.2.2.2.2.2.2.2.2.1, V.2.2.2.2.2.2.2.2.2.2.2.2.2.2.1, V.2.2.2.2.2.2.2.2.2.2.2.2.2.2.2.1, V.2.2.2.2.2.2.2.2.2.2.2.2.2.2.2.2.1, V.2.2.2.2.2.2.2.2.2.2.2.2.2.2.2.2.2), sc E ay Vy]) C mt_207 mt_209 mt_208 mt_11 1 0 5 rfl (List.mem_of_getElem? (i := 5) rfl) rfl rfl (by decide) (by decide) (by decide) (by decide) (by decide) (Nat.le_of_ble_eq_true rfl) (Nat.le_of_ble_eq_true rfl) dX4_copy_71 rfl ?_
  refine g_aload_n C dX4_copy_74 rfl 1 rfl ?_
  refine g_get (Cl := RX4) (T := TX4) (N := 18) C mi_X4 1 rfl (List.mem_of_getElem? (i := 0) rfl) rfl 5 (by decide) mt_220 rfl rfl dX4_copy_75 ?_
  refine g_iconst (v := (0 : Int32)) C dX4_copy_78 (by decide) ?_
  refine g_aload_n C dX4_copy_79 rfl 0 rfl ?_
  refine g_get (Cl := RX4) (T := TX4) (N := 18) C mi_X4 0 rfl (List.mem_of_getElem? (i := 0) rfl) rfl 5 (by decide) mt_220 rfl rfl dX4_copy_80 ?_
  refine g_iconst (v := (0 : Int32)) C dX4_copy_83 (by decide) ?_
  refine g_bipush (v := (30 : Int32)) C dX4_copy_84 (by decide) ?_
  refine g_copyi (Y2 := [sc E a ((va_cpy Vy.1 V.1 (Int32.toNatClampNeg (0 : Int32)) (Int32.toNatClampNeg (0 : Int32)) (Int32.toNatClampNeg (7 : Int32))), (va_cpy Vy.2.1 V.2.1 (Int32.toNatClampNeg (0 : Int32)) (Int32.toNatClampNeg (0 : Int32)) (Int32.toNatClampNeg (20 : Int32))), (va_cpy Vy.2.2.1 V.2.2.1 (Int32.toNatClampNeg (0 : Int32)) (Int32.toNatClampNeg (0 : Int32)) (Int32.toNatClampNeg (20 : Int32))), (va_cpy Vy.2.2.2.1 V.2.2.2.1 (Int32.toNatClampNeg (0 : Int32)) (Int32.toNatClampNeg (0 : Int32)) (Int32.toNatClampNeg (20 : Int32))), (va_cpy Vy.2.2.2.2.1 V.2.2.2.2.1 (Int32.toNatClampNeg (0 : Int32)) (Int32.toNatClampNeg (0 : Int32)) (Int32.toNatClampNeg (4 : Int32))), (va_cpy Vy.2.2.2.2.2.1 V.2.2.2.2.2.1 (Int32.toNatClampNeg (0 : Int32)) (Int32.toNatClampNeg (0 : Int32)) (Int32.toNatClampNeg (30 : Int32))), V.2.2.2.2.2.2.1, V.2.2.2.2.2.2.2.1, V.2.2.2.2.2.2.2.2.1, V.2.2.2.2.2.2.2.2.2.1, V.2.2.2.2.2.2.2.2.2.2.1, V.2.2.2.2.2.2.2.2.2.2.2.1, V.2.2.2.2.2.2.2.2.2.2.2.2.1, V.2.2.2.2.2.2.2.2.2.2.2.2.2.1, V.2.2.2.2.2.2.2.2.2.2.2.2.2.2.1, V.2.2.2.2.2.2.2.2.2.2.2.2.2.2.2.1, V.2.2.2.2.2.2.2.2.2.2.2.2.2.2.2.2.1, V.2.2.2.2.2.2.2.2.2.2.2.2.2.2.2.2.2), sc E ay Vy]) C mt_207 mt_209 mt_208 mt_11 1 0 6 rfl (List.mem_of_getElem? (i := 6) rfl) rfl rfl (by decide) (by decide) (by decide) (by decide) (by decide) (Nat.le_of_ble_eq_true rfl) (Nat.le_of_ble_eq_true rfl) dX4_copy_86 rfl ?_
  refine g_aload_n C dX4_copy_89 rfl 0 rfl ?_
  refine g_aload_n C dX4_copy_90 rfl 1 rfl ?_
  refine g_get (Cl := RX4) (T := TX4) (N := 18) C mi_X4 1 rfl (List.mem_of_getElem? (i := 0) rfl) rfl 6 (by decide) mt_222 rfl rfl dX4_copy_91 ?_
  refine g_put (Cl := RX4) (T := TX4) (N := 18) (Y2 := [sc E a ((va_cpy Vy.1 V.1 (Int32.toNatClampNeg (0 : Int32)) (Int32.toNatClampNeg (0 : Int32)) (Int32.toNatClampNeg (7 : Int32))), (va_cpy Vy.2.1 V.2.1 (Int32.toNatClampNeg (0 : Int32)) (Int32.toNatClampNeg (0 : Int32)) (Int32.toNatClampNeg (20 : Int32))), (va_cpy Vy.2.2.1 V.2.2.1 (Int32.toNatClampNeg (0 : Int32)) (Int32.toNatClampNeg (0 : Int32)) (Int32.toNatClampNeg (20 : Int32))), (va_cpy Vy.2.2.2.1 V.2.2.2.1 (Int32.toNatClampNeg (0 : Int32)) (Int32.toNatClampNeg (0 : Int32)) (Int32.toNatClampNeg (20 : Int32))), (va_cpy Vy.2.2.2.2.1 V.2.2.2.2.1 (Int32.toNatClampNeg (0 : Int32)) (Int32.toNatClampNeg (0 : Int32)) (Int32.toNatClampNeg (4 : Int32))), (va_cpy Vy.2.2.2.2.2.1 V.2.2.2.2.2.1 (Int32.toNatClampNeg (0 : Int32)) (Int32.toNatClampNeg (0 : Int32)) (Int32.toNatClampNeg (30 : Int32))), Vy.2.2.2.2.2.2.1, V.2.2.2.2.2.2.2.1, V.2.2.2.2.2.2.2.2.1, V.2.2.2.2.2.2.2.2.2.1, V.2.2.2.2.2.2.2.2.2.2.1, V.2.2.2.2.2.2.2.2.2.2.2.1, V.2.2.2.2.2.2.2.2.2.2.2.2.1, V.2.2.2.2.2.2.2.2.2.2.2.2.2.1, V.2.2.2.2.2.2.2.2.2.2.2.2.2.2.1, V.2.2.2.2.2.2.2.2.2.2.2.2.2.2.2.1, V.2.2.2.2.2.2.2.2.2.2.2.2.2.2.2.2.1, V.2.2.2.2.2.2.2.2.2.2.2.2.2.2.2.2.2), sc E ay Vy]) C mi_X4 tyX4_ok nmX4 0 0 rfl rfl rfl 6 (by decide) mt_222 rfl rfl rfl rfl rfl (Nat.le_of_ble_eq_true rfl) dX4_copy_94 rfl ?_
  refine g_aload_n C dX4_copy_97 rfl 0 rfl ?_
  refine g_aload_n C dX4_copy_98 rfl 1 rfl ?_
  refine g_get (Cl := RX4) (T := TX4) (N := 18) C mi_X4 1 rfl (List.mem_of_getElem? (i := 0) rfl) rfl 7 (by decide) mt_224 rfl rfl dX4_copy_99 ?_
  refine g_put (Cl := RX4) (T := TX4) (N := 18) (Y2 := [sc E a ((va_cpy Vy.1 V.1 (Int32.toNatClampNeg (0 : Int32)) (Int32.toNatClampNeg (0 : Int32)) (Int32.toNatClampNeg (7 : Int32))), (va_cpy Vy.2.1 V.2.1 (Int32.toNatClampNeg (0 : Int32)) (Int32.toNatClampNeg (0 : Int32)) (Int32.toNatClampNeg (20 : Int32))), (va_cpy Vy.2.2.1 V.2.2.1 (Int32.toNatClampNeg (0 : Int32)) (Int32.toNatClampNeg (0 : Int32)) (Int32.toNatClampNeg (20 : Int32))), (va_cpy Vy.2.2.2.1 V.2.2.2.1 (Int32.toNatClampNeg (0 : Int32)) (Int32.toNatClampNeg (0 : Int32)) (Int32.toNatClampNeg (20 : Int32))), (va_cpy Vy.2.2.2.2.1 V.2.2.2.2.1 (Int32.toNatClampNeg (0 : Int32)) (Int32.toNatClampNeg (0 : Int32)) (Int32.toNatClampNeg (4 : Int32))), (va_cpy Vy.2.2.2.2.2.1 V.2.2.2.2.2.1 (Int32.toNatClampNeg (0 : Int32)) (Int32.toNatClampNeg (0 : Int32)) (Int32.toNatClampNeg (30 : Int32))), Vy.2.2.2.2.2.2.1, Vy.2.2.2.2.2.2.2.1, V.2.2.2.2.2.2.2.2.1, V.2.2.2.2.2.2.2.2.2.1, V.2.2.2.2.2.2.2.2.2.2.1, V.2.2.2.2.2.2.2.2.2.2.2.1, V.2.2.2.2.2.2.2.2.2.2.2.2.1, V.2.2.2.2.2.2.2.2.2.2.2.2.2.1, V.2.2.2.2.2.2.2.2.2.2.2.2.2.2.1, V.2.2.2.2.2.2.2.2.2.2.2.2.2.2.2.1, V.2.2.2.2.2.2.2.2.2.2.2.2.2.2.2.2.1, V.2.2.2.2.2.2.2.2.2.2.2.2.2.2.2.2.2), sc E ay Vy]) C mi_X4 tyX4_ok nmX4 0 0 rfl rfl rfl 7 (by decide) mt_224 rfl rfl rfl rfl rfl (Nat.le_of_ble_eq_true rfl) dX4_copy_102 rfl ?_
  refine g_aload_n C dX4_copy_105 rfl 0 rfl ?_
  refine g_aload_n C dX4_copy_106 rfl 1 rfl ?_
  refine g_get (Cl := RX4) (T := TX4) (N := 18) C mi_X4 1 rfl (List.mem_of_getElem? (i := 0) rfl) rfl 8 (by decide) mt_226 rfl rfl dX4_copy_107 ?_
  refine g_put (Cl := RX4) (T := TX4) (N := 18) (Y2 := [sc E a ((va_cpy Vy.1 V.1 (Int32.toNatClampNeg (0 : Int32)) (Int32.toNatClampNeg (0 : Int32)) (Int32.toNatClampNeg (7 : Int32))), (va_cpy Vy.2.1 V.2.1 (Int32.toNatClampNeg (0 : Int32)) (Int32.toNatClampNeg (0 : Int32)) (Int32.toNatClampNeg (20 : Int32))), (va_cpy Vy.2.2.1 V.2.2.1 (Int32.toNatClampNeg (0 : Int32)) (Int32.toNatClampNeg (0 : Int32)) (Int32.toNatClampNeg (20 : Int32))), (va_cpy Vy.2.2.2.1 V.2.2.2.1 (Int32.toNatClampNeg (0 : Int32)) (Int32.toNatClampNeg (0 : Int32)) (Int32.toNatClampNeg (20 : Int32))), (va_cpy Vy.2.2.2.2.1 V.2.2.2.2.1 (Int32.toNatClampNeg (0 : Int32)) (Int32.toNatClampNeg (0 : Int32)) (Int32.toNatClampNeg (4 : Int32))), (va_cpy Vy.2.2.2.2.2.1 V.2.2.2.2.2.1 (Int32.toNatClampNeg (0 : Int32)) (Int32.toNatClampNeg (0 : Int32)) (Int32.toNatClampNeg (30 : Int32))), Vy.2.2.2.2.2.2.1, Vy.2.2.2.2.2.2.2.1, Vy.2.2.2.2.2.2.2.2.1, V.2.2.2.2.2.2.2.2.2.1, V.2.2.2.2.2.2.2.2.2.2.1, V.2.2.2.2.2.2.2.2.2.2.2.1, V.2.2.2.2.2.2.2.2.2.2.2.2.1, V.2.2.2.2.2.2.2.2.2.2.2.2.2.1, V.2.2.2.2.2.2.2.2.2.2.2.2.2.2.1, V.2.2.2.2.2.2.2.2.2.2.2.2.2.2.2.1, V.2.2.2.2.2.2.2.2.2.2.2.2.2.2.2.2.1, V.2.2.2.2.2.2.2.2.2.2.2.2.2.2.2.2.2), sc E ay Vy]) C mi_X4 tyX4_ok nmX4 0 0 rfl rfl rfl 8 (by decide) mt_226 rfl rfl rfl rfl rfl (Nat.le_of_ble_eq_true rfl) dX4_copy_110 rfl ?_
  refine g_aload_n C dX4_copy_113 rfl 0 rfl ?_
  refine g_aload_n C dX4_copy_114 rfl 1 rfl ?_
  refine g_get (Cl := RX4) (T := TX4) (N := 18) C mi_X4 1 rfl (List.mem_of_getElem? (i := 0) rfl) rfl 9 (by decide) mt_228 rfl rfl dX4_copy_115 ?_
  refine g_put (Cl := RX4) (T := TX4) (N := 18) (Y2 := [sc E a ((va_cpy Vy.1 V.1 (Int32.toNatClampNeg (0 : Int32)) (Int32.toNatClampNeg (0 : Int32)) (Int32.toNatClampNeg (7 : Int32))), (va_cpy Vy.2.1 V.2.1 (Int32.toNatClampNeg (0 : Int32)) (Int32.toNatClampNeg (0 : Int32)) (Int32.toNatClampNeg (20 : Int32))), (va_cpy Vy.2.2.1 V.2.2.1 (Int32.toNatClampNeg (0 : Int32)) (Int32.toNatClampNeg (0 : Int32)) (Int32.toNatClampNeg (20 : Int32))), (va_cpy Vy.2.2.2.1 V.2.2.2.1 (Int32.toNatClampNeg (0 : Int32)) (Int32.toNatClampNeg (0 : Int32)) (Int32.toNatClampNeg (20 : Int32))), (va_cpy Vy.2.2.2.2.1 V.2.2.2.2.1 (Int32.toNatClampNeg (0 : Int32)) (Int32.toNatClampNeg (0 : Int32)) (Int32.toNatClampNeg (4 : Int32))), (va_cpy Vy.2.2.2.2.2.1 V.2.2.2.2.2.1 (Int32.toNatClampNeg (0 : Int32)) (Int32.toNatClampNeg (0 : Int32)) (Int32.toNatClampNeg (30 : Int32))), Vy.2.2.2.2.2.2.1, Vy.2.2.2.2.2.2.2.1, Vy.2.2.2.2.2.2.2.2.1, Vy.2.2.2.2.2.2.2.2.2.1, V.2.2.2.2.2.2.2.2.2.2.1, V.2.2.2.2.2.2.2.2.2.2.2.1, V.2.2.2.2.2.2.2.2.2.2.2.2.1, V.2.2.2.2.2.2.2.2.2.2.2.2.2.1, V.2.2.2.2.2.2.2.2.2.2.2.2.2.2.1, V.2.2.2.2.2.2.2.2.2.2.2.2.2.2.2.1, V.2.2.2.2.2.2.2.2.2.2.2.2.2.2.2.2.1, V.2.2.2.2.2.2.2.2.2.2.2.2.2.2.2.2.2), sc E ay Vy]) C mi_X4 tyX4_ok nmX4 0 0 rfl rfl rfl 9 (by decide) mt_228 rfl rfl rfl rfl rfl (Nat.le_of_ble_eq_true rfl) dX4_copy_118 rfl ?_
  refine g_aload_n C dX4_copy_121 rfl 0 rfl ?_
  refine g_aload_n C dX4_copy_122 rfl 1 rfl ?_
  refine g_get (Cl := RX4) (T := TX4) (N := 18) C mi_X4 1 rfl (List.mem_of_getElem? (i := 0) rfl) rfl 10 (by decide) mt_230 rfl rfl dX4_copy_123 ?_
  refine g_put (Cl := RX4) (T := TX4) (N := 18) (Y2 := [sc E a ((va_cpy Vy.1 V.1 (Int32.toNatClampNeg (0 : Int32)) (Int32.toNatClampNeg (0 : Int32)) (Int32.toNatClampNeg (7 : Int32))), (va_cpy Vy.2.1 V.2.1 (Int32.toNatClampNeg (0 : Int32)) (Int32.toNatClampNeg (0 : Int32)) (Int32.toNatClampNeg (20 : Int32))), (va_cpy Vy.2.2.1 V.2.2.1 (Int32.toNatClampNeg (0 : Int32)) (Int32.toNatClampNeg (0 : Int32)) (Int32.toNatClampNeg (20 : Int32))), (va_cpy Vy.2.2.2.1 V.2.2.2.1 (Int32.toNatClampNeg (0 : Int32)) (Int32.toNatClampNeg (0 : Int32)) (Int32.toNatClampNeg (20 : Int32))), (va_cpy Vy.2.2.2.2.1 V.2.2.2.2.1 (Int32.toNatClampNeg (0 : Int32)) (Int32.toNatClampNeg (0 : Int32)) (Int32.toNatClampNeg (4 : Int32))), (va_cpy Vy.2.2.2.2.2.1 V.2.2.2.2.2.1 (Int32.toNatClampNeg (0 : Int32)) (Int32.toNatClampNeg (0 : Int32)) (Int32.toNatClampNeg (30 : Int32))), Vy.2.2.2.2.2.2.1, Vy.2.2.2.2.2.2.2.1, Vy.2.2.2.2.2.2.2.2.1, Vy.2.2.2.2.2.2.2.2.2.1, Vy.2.2.2.2.2.2.2.2.2.2.1, V.2.2.2.2.2.2.2.2.2.2.2.1, V.2.2.2.2.2.2.2.2.2.2.2.2.1, V.2.2.2.2.2.2.2.2.2.2.2.2.2.1, V.2.2.2.2.2.2.2.2.2.2.2.2.2.2.1, V.2.2.2.2.2.2.2.2.2.2.2.2.2.2.2.1, V.2.2.2.2.2.2.2.2.2.2.2.2.2.2.2.2.1, V.2.2.2.2.2.2.2.2.2.2.2.2.2.2.2.2.2), sc E ay Vy]) C mi_X4 tyX4_ok nmX4 0 0 rfl rfl rfl 10 (by decide) mt_230 rfl rfl rfl rfl rfl (Nat.le_of_ble_eq_true rfl) dX4_copy_126 rfl ?_
  refine g_aload_n C dX4_copy_129 rfl 0 rfl ?_
  refine g_aload_n C dX4_copy_130 rfl 1 rfl ?_
  refine g_get (Cl := RX4) (T := TX4) (N := 18) C mi_X4 1 rfl (List.mem_of_getElem? (i := 0) rfl) rfl 11 (by decide) mt_232 rfl rfl dX4_copy_131 ?_
  refine g_put (Cl := RX4) (T := TX4) (N := 18) (Y2 := [sc E a ((va_cpy Vy.1 V.1 (Int32.toNatClampNeg (0 : Int32)) (Int32.toNatClampNeg (0 : Int32)) (Int32.toNatClampNeg (7 : Int32))), (va_cpy Vy.2.1 V.2.1 (Int32.toNatClampNeg (0 : Int32)) (Int32.toNatClampNeg (0 : Int32)) (Int32.toNatClampNeg (20 : Int32))), (va_cpy Vy.2.2.1 V.2.2.1 (Int32.toNatClampNeg (0 : Int32)) (Int32.toNatClampNeg (0 : Int32)) (Int32.toNatClampNeg (20 : Int32))), (va_cpy Vy.2.2.2.1 V.2.2.2.1 (Int32.toNatClampNeg (0 : Int32)) (Int32.toNatClampNeg (0 : Int32)) (Int32.toNatClampNeg (20 : Int32))), (va_cpy Vy.2.2.2.2.1 V.2.2.2.2.1 (Int32.toNatClampNeg (0 : Int32)) (Int32.toNatClampNeg (0 : Int32)) (Int32.toNatClampNeg (4 : Int32))), (va_cpy Vy.2.2.2.2.2.1 V.2.2.2.2.2.1 (Int32.toNatClampNeg (0 : Int32)) (Int32.toNatClampNeg (0 : Int32)) (Int32.toNatClampNeg (30 : Int32))), Vy.2.2.2.2.2.2.1, Vy.2.2.2.2.2.2.2.1, Vy.2.2.2.2.2.2.2.2.1, Vy.2.2.2.2.2.2.2.2.2.1, Vy.2.2.2.2.2.2.2.2.2.2.1, Vy.2.2.2.2.2.2.2.2.2.2.2.1, V.2.2.2.2.2.2.2.2.2.2.2.2.1, V.2.2.2.2.2.2.2.2.2.2.2.2.2.1, V.2.2.2.2.2.2.2.2.2.2.2.2.2.2.1, V.2.2.2.2.2.2.2.2.2.2.2.2.2.2.2.1, V.2.2.2.2.2.2.2.2.2.2.2.2.2.2.2.2.1, V.2.2.2.2.2.2.2.2.2.2.2.2.2.2.2.2.2), sc E ay Vy]) C mi_X4 tyX4_ok nmX4 0 0 rfl rfl rfl 11 (by decide) mt_232 rfl rfl rfl rfl rfl (Nat.le_of_ble_eq_true rfl) dX4_copy_134 rfl ?_
  refine g_aload_n C dX4_copy_137 rfl 0 rfl ?_
  refine g_aload_n C dX4_copy_138 rfl 1 rfl ?_
  refine g_get (Cl := RX4) (T := TX4) (N := 18) C mi_X4 1 rfl (List.mem_of_getElem? (i := 0) rfl) rfl 12 (by decide) mt_234 rfl rfl dX4_copy_139 ?_
  refine g_put (Cl := RX4) (T := TX4) (N := 18) (Y2 := [sc E a ((va_cpy Vy.1 V.1 (Int32.toNatClampNeg (0 : Int32)) (Int32.toNatClampNeg (0 : Int32)) (Int32.toNatClampNeg (7 : Int32))), (va_cpy Vy.2.1 V.2.1 (Int32.toNatClampNeg (0 : Int32)) (Int32.toNatClampNeg (0 : Int32)) (Int32.toNatClampNeg (20 : Int32))), (va_cpy Vy.2.2.1 V.2.2.1 (Int32.toNatClampNeg (0 : Int32)) (Int32.toNatClampNeg (0 : Int32)) (Int32.toNatClampNeg (20 : Int32))), (va_cpy Vy.2.2.2.1 V.2.2.2.1 (Int32.toNatClampNeg (0 : Int32)) (Int32.toNatClampNeg (0 : Int32)) (Int32.toNatClampNeg (20 : Int32))), (va_cpy Vy.2.2.2.2.1 V.2.2.2.2.1 (Int32.toNatClampNeg (0 : Int32)) (Int32.toNatClampNeg (0 : Int32)) (Int32.toNatClampNeg (4 : Int32))), (va_cpy Vy.2.2.2.2.2.1 V.2.2.2.2.2.1 (Int32.toNatClampNeg (0 : Int32)) (Int32.toNatClampNeg (0 : Int32)) (Int32.toNatClampNeg (30 : Int32))), Vy.2.2.2.2.2.2.1, Vy.2.2.2.2.2.2.2.1, Vy.2.2.2.2.2.2.2.2.1, Vy.2.2.2.2.2.2.2.2.2.1, Vy.2.2.2.2.2.2.2.2.2.2.1, Vy.2.2.2.2.2.2.2.2.2.2.2.1, Vy.2.2.2.2.2.2.2.2.2.2.2.2.1, V.2.2.2.2.2.2.2.2.2.2.2.2.2.1, V.2.2.2.2.2.2.2.2.2.2.2.2.2.2.1, V.2.2.2.2.2.2.2.2.2.2.2.2.2.2.2.1, V.2.2.2.2.2.2.2.2.2.2.2.2.2.2.2.2.1, V.2.2.2.2.2.2.2.2.2.2.2.2.2.2.2.2.2), sc E ay Vy]) C mi_X4 tyX4_ok nmX4 0 0 rfl rfl rfl 12 (by decide) mt_234 rfl rfl rfl rfl rfl (Nat.le_of_ble_eq_true rfl) dX4_copy_142 rfl ?_
  refine g_aload_n C dX4_copy_145 rfl 0 rfl ?_
  refine g_aload_n C dX4_copy_146 rfl 1 rfl ?_
  refine g_get (Cl := RX4) (T := TX4) (N := 18) C mi_X4 1 rfl (List.mem_of_getElem? (i := 0) rfl) rfl 13 (by decide) mt_235 rfl rfl dX4_copy_147 ?_
  refine g_put (Cl := RX4) (T := TX4) (N := 18) (Y2 := [sc E a ((va_cpy Vy.1 V.1 (Int32.toNatClampNeg (0 : Int32)) (Int32.toNatClampNeg (0 : Int32)) (Int32.toNatClampNeg (7 : Int32))), (va_cpy Vy.2.1 V.2.1 (Int32.toNatClampNeg (0 : Int32)) (Int32.toNatClampNeg (0 : Int32)) (Int32.toNatClampNeg (20 : Int32))), (va_cpy Vy.2.2.1 V.2.2.1 (Int32.toNatClampNeg (0 : Int32)) (Int32.toNatClampNeg (0 : Int32)) (Int32.toNatClampNeg (20 : Int32))), (va_cpy Vy.2.2.2.1 V.2.2.2.1 (Int32.toNatClampNeg (0 : Int32)) (Int32.toNatClampNeg (0 : Int32)) (Int32.toNatClampNeg (20 : Int32))), (va_cpy Vy.2.2.2.2.1 V.2.2.2.2.1 (Int32.toNatClampNeg (0 : Int32)) (Int32.toNatClampNeg (0 : Int32)) (Int32.toNatClampNeg (4 : Int32))), (va_cpy Vy.2.2.2.2.2.1 V.2.2.2.2.2.1 (Int32.toNatClampNeg (0 : Int32)) (Int32.toNatClampNeg (0 : Int32)) (Int32.toNatClampNeg (30 : Int32))), Vy.2.2.2.2.2.2.1, Vy.2.2.2.2.2.2.2.1, Vy.2.2.2.2.2.2.2.2.1, Vy.2.2.2.2.2.2.2.2.2.1, Vy.2.2.2.2.2.2.2.2.2.2.1, Vy.2.2.2.2.2.2.2.2.2.2.2.1, Vy.2.2.2.2.2.2.2.2.2.2.2.2.1, Vy.2.2.2.2.2.2.2.2.2.2.2.2.2.1, V.2.2.2.2.2.2.2.2.2.2.2.2.2.2.1, V.2.2.2.2.2.2.2.2.2.2.2.2.2.2.2.1, V.2.2.2.2.2.2.2.2.2.2.2.2.2.2.2.2.1, V.2.2.2.2.2.2.2.2.2.2.2.2.2.2.2.2.2), sc E ay Vy]) C mi_X4 tyX4_ok nmX4 0 0 rfl rfl rfl 13 (by decide) mt_235 rfl rfl rfl rfl rfl (Nat.le_of_ble_eq_true rfl) dX4_copy_150 rfl ?_
  refine g_aload_n C dX4_copy_153 rfl 0 rfl ?_
  refine g_aload_n C dX4_copy_154 rfl 1 rfl ?_
  refine g_get (Cl := RX4) (T := TX4) (N := 18) C mi_X4 1 rfl (List.mem_of_getElem? (i := 0) rfl) rfl 14 (by decide) mt_236 rfl rfl dX4_copy_155 ?_
  refine g_put (Cl := RX4) (T := TX4) (N := 18) (Y2 := [sc E a ((va_cpy Vy.1 V.1 (Int32.toNatClampNeg (0 : Int32)) (Int32.toNatClampNeg (0 : Int32)) (Int32.toNatClampNeg (7 : Int32))), (va_cpy Vy.2.1 V.2.1 (Int32.toNatClampNeg (0 : Int32)) (Int32.toNatClampNeg (0 : Int32)) (Int32.toNatClampNeg (20 : Int32))), (va_cpy Vy.2.2.1 V.2.2.1 (Int32.toNatClampNeg (0 : Int32)) (Int32.toNatClampNeg (0 : Int32)) (Int32.toNatClampNeg (20 : Int32))), (va_cpy Vy.2.2.2.1 V.2.2.2.1 (Int32.toNatClampNeg (0 : Int32)) (Int32.toNatClampNeg (0 : Int32)) (Int32.toNatClampNeg (20 : Int32))), (va_cpy Vy.2.2.2.2.1 V.2.2.2.2.1 (Int32.toNatClampNeg (0 : Int32)) (Int32.toNatClampNeg (0 : Int32)) (Int32.toNatClampNeg (4 : Int32))), (va_cpy Vy.2.2.2.2.2.1 V.2.2.2.2.2.1 (Int32.toNatClampNeg (0 : Int32)) (Int32.toNatClampNeg (0 : Int32)) (Int32.toNatClampNeg (30 : Int32))), Vy.2.2.2.2.2.2.1, Vy.2.2.2.2.2.2.2.1, Vy.2.2.2.2.2.2.2.2.1, Vy.2.2.2.2.2.2.2.2.2.1, Vy.2.2.2.2.2.2.2.2.2.2.1, Vy.2.2.2.2.2.2.2.2.2.2.2.1, Vy.2.2.2.2.2.2.2.2.2.2.2.2.1, Vy.2.2.2.2.2.2.2.2.2.2.2.2.2.1, Vy.2.2.2.2.2.2.2.2.2.2.2.2.2.2.1, V.2.2.2.2.2.2.2.2.2.2.2.2.2.2.2.1, V.2.2.2.2.2.2.2.2.2.2.2.2.2.2.2.2.1, V.2.2.2.2.2.2.2.2.2.2.2.2.2.2.2.2.2), sc E ay Vy]) C mi_X4 tyX4_ok nmX4 0 0 rfl rfl rfl 14 (by decide) mt_236 rfl rfl rfl rfl rfl (Nat.le_of_ble_eq_true rfl) dX4_copy_158 rfl ?_
  refine g_aload_n C dX4_copy_161 rfl 0 rfl ?_
  refine g_aload_n C dX4_copy_162 rfl 1 rfl ?_
  refine g_get (Cl := RX4) (T := TX4) (N := 18) C mi_X4 1 rfl (List.mem_of_getElem? (i := 0) rfl) rfl 15 (by decide) mt_238 rfl rfl dX4_copy_163 ?_
  refine g_put (Cl := RX4) (T := TX4) (N := 18) (Y2 := [sc E a ((va_cpy Vy.1 V.1 (Int32.toNatClampNeg (0 : Int32)) (Int32.toNatClampNeg (0 : Int32)) (Int32.toNatClampNeg (7 : Int32))), (va_cpy Vy.2.1 V.2.1 (Int32.toNatClampNeg (0 : Int32)) (Int32.toNatClampNeg (0 : Int32)) (Int32.toNatClampNeg (20 : Int32))), (va_cpy Vy.2.2.1 V.2.2.1 (Int32.toNatClampNeg (0 : Int32)) (Int32.toNatClampNeg (0 : Int32)) (Int32.toNatClampNeg (20 : Int32))), (va_cpy Vy.2.2.2.1 V.2.2.2.1 (Int32.toNatClampNeg (0 : Int32)) (Int32.toNatClampNeg (0 : Int32)) (Int32.toNatClampNeg (20 : Int32))), (va_cpy Vy.2.2.2.2.1 V.2.2.2.2.1 (Int32.toNatClampNeg (0 : Int32)) (Int32.toNatClampNeg (0 : Int32)) (Int32.toNatClampNeg (4 : Int32))), (va_cpy Vy.2.2.2.2.2.1 V.2.2.2.2.2.1 (Int32.toNatClampNeg (0 : Int32)) (Int32.toNatClampNeg (0 : Int32)) (Int32.toNatClampNeg (30 : Int32))), Vy.2.2.2.2.2.2.1, Vy.2.2.2.2.2.2.2.1, Vy.2.2.2.2.2.2.2.2.1, Vy.2.2.2.2.2.2.2.2.2.1, Vy.2.2.2.2.2.2.2.2.2.2.1, Vy.2.2.2.2.2.2.2.2.2.2.2.1, Vy.2.2.2.2.2.2.2.2.2.2.2.2.1, Vy.2.2.2.2.2.2.2.2.2.2.2.2.2.1, Vy.2.2.2.2.2.2.2.2.2.2.2.2.2.2.1, Vy.2.2.2.2.2.2.2.2.2.2.2.2.2.2.2.1, V.2.2.2.2.2.2.2.2.2.2.2.2.2.2.2.2.1, V.2.2.2.2.2.2.2.2.2.2.2.2.2.2.2.2.2), sc E ay Vy]) C mi_X4 tyX4_ok nmX4 0 0 rfl rfl rfl 15 (by decide) mt_238 rfl rfl rfl rfl rfl (Nat.le_of_ble_eq_true rfl) dX4_copy_166 rfl ?_
  refine g_aload_n C dX4_copy_169 rfl 0 rfl ?_
  refine g_aload_n C dX4_copy_170 rfl 1 rfl ?_
  refine g_get (Cl := RX4) (T := TX4) (N := 18) C mi_X4 1 rfl (List.mem_of_getElem? (i := 0) rfl) rfl 16 (by decide) mt_239 rfl rfl dX4_copy_171 ?_
  refine g_put (Cl := RX4) (T := TX4) (N := 18) (Y2 := [sc E a ((va_cpy Vy.1 V.1 (Int32.toNatClampNeg (0 : Int32)) (Int32.toNatClampNeg (0 : Int32)) (Int32.toNatClampNeg (7 : Int32))), (va_cpy Vy.2.1 V.2.1 (Int32.toNatClampNeg (0 : Int32)) (Int32.toNatClampNeg (0 : Int32)) (Int32.toNatClampNeg (20 : Int32))), (va_cpy Vy.2.2.1 V.2.2.1 (Int32.toNatClampNeg (0 : Int32)) (Int32.toNatClampNeg (0 : Int32)) (Int32.toNatClampNeg (20 : Int32))), (va_cpy Vy.2.2.2.1 V.2.2.2.1 (Int32.toNatClampNeg (0 : Int32)) (Int32.toNatClampNeg (0 : Int32)) (Int32.toNatClampNeg (20 : Int32))), (va_cpy Vy.2.2.2.2.1 V.2.2.2.2.1 (Int32.toNatClampNeg (0 : Int32)) (Int32.toNatClampNeg (0 : Int32)) (Int32.toNatClampNeg (4 : Int32))), (va_cpy Vy.2.2.2.2.2.1 V.2.2.2.2.2.1 (Int32.toNatClampNeg (0 : Int32)) (Int32.toNatClampNeg (0 : Int32)) (Int32.toNatClampNeg (30 : Int32))), Vy.2.2.2.2.2.2.1, Vy.2.2.2.2.2.2.2.1, Vy.2.2.2.2.2.2.2.2.1, Vy.2.2.2.2.2.2.2.2.2.1, Vy.2.2.2.2.2.2.2.2.2.2.1, Vy.2.2.2.2.2.2.2.2.2.2.2.1, Vy.2.2.2.2.2.2.2.2.2.2.2.2.1, Vy.2.2.2.2.2.2.2.2.2.2.2.2.2.1, Vy.2.2.2.2.2.2.2.2.2.2.2.2.2.2.1, Vy.2.2.2.2.2.2.2.2.2.2.2.2.2.2.2.1, Vy.2.2.2.2.2.2.2.2.2.2.2.2.2.2.2.2.1, V.2.2.2.2.2.2.2.2.2.2.2.2.2.2.2.2.2), sc E ay Vy]) C mi_X4 tyX4_ok nmX4 0 0 rfl rfl rfl 16 (by decide) mt_239 rfl rfl rfl rfl rfl (Nat.le_of_ble_eq_true rfl) dX4_copy_174 rfl ?_
  refine g_aload_n C dX4_copy_177 rfl 0 rfl ?_
  refine g_aload_n C dX4_copy_178 rfl 1 rfl ?_
  refine g_get (Cl := RX4) (T := TX4) (N := 18) C mi_X4 1 rfl (List.mem_of_getElem? (i := 0) rfl) rfl 17 (by decide) mt_240 rfl rfl dX4_copy_179 ?_
  refine g_put (Cl := RX4) (T := TX4) (N := 18) (Y2 := [sc E a ((va_cpy Vy.1 V.1 (Int32.toNatClampNeg (0 : Int32)) (Int32.toNatClampNeg (0 : Int32)) (Int32.toNatClampNeg (7 : Int32))), (va_cpy Vy.2.1 V.2.1 (Int32.toNatClampNeg (0 : Int32)) (Int32.toNatClampNeg (0 : Int32)) (Int32.toNatClampNeg (20 : Int32))), (va_cpy Vy.2.2.1 V.2.2.1 (Int32.toNatClampNeg (0 : Int32)) (Int32.toNatClampNeg (0 : Int32)) (Int32.toNatClampNeg (20 : Int32))), (va_cpy Vy.2.2.2.1 V.2.2.2.1 (Int32.toNatClampNeg (0 : Int32)) (Int32.toNatClampNeg (0 : Int32)) (Int32.toNatClampNeg (20 : Int32))), (va_cpy Vy.2.2.2.2.1 V.2.2.2.2.1 (Int32.toNatClampNeg (0 : Int32)) (Int32.toNatClampNeg (0 : Int32)) (Int32.toNatClampNeg (4 : Int32))), (va_cpy Vy.2.2.2.2.2.1 V.2.2.2.2.2.1 (Int32.toNatClampNeg (0 : Int32)) (Int32.toNatClampNeg (0 : Int32)) (Int32.toNatClampNeg (30 : Int32))), Vy.2.2.2.2.2.2.1, Vy.2.2.2.2.2.2.2.1, Vy.2.2.2.2.2.2.2.2.1, Vy.2.2.2.2.2.2.2.2.2.1, Vy.2.2.2.2.2.2.2.2.2.2.1, Vy.2.2.2.2.2.2.2.2.2.2.2.1, Vy.2.2.2.2.2.2.2.2.2.2.2.2.1, Vy.2.2.2.2.2.2.2.2.2.2.2.2.2.1, Vy.2.2.2.2.2.2.2.2.2.2.2.2.2.2.1, Vy.2.2.2.2.2.2.2.2.2.2.2.2.2.2.2.1, Vy.2.2.2.2.2.2.2.2.2.2.2.2.2.2.2.2.1, Vy.2.2.2.2.2.2.2.2.2.2.2.2.2.2.2.2.2), sc E ay Vy]) C mi_X4 tyX4_ok nmX4 0 0 rfl rfl rfl 17 (by decide) mt_240 rfl rfl rfl rfl rfl (Nat.le_of_ble_eq_true rfl) dX4_copy_182 rfl ?_
  obtain rfl := Option.some.inj hf
  exact g_ret C K dX4_copy_185 (Nat.le_of_ble_eq_true rfl) (Nat.le_of_ble_eq_true rfl) ⟨rfl, rfl⟩
def f_X4_ruleHolds (N : Nat) (V : St) (Rx : Ru) : Option (Int32) := ((f_X3_holds N Rx V.2.2.2.2.2.2.2.2.1).bind fun o1 => (zb o1 (some o1)))
abbrev rm_X4_ruleHolds : Room := { frames := 4, cells := 0, slots := 0, locals := 95 }
set_option maxRecDepth 100000 in
theorem k_X4_ruleHolds : CF yX4_ruleHolds cX4_ruleHolds 1 (some .boolean) 0 := ⟨mt_363, mt_364, mt_10, mt_365, ⟨rfl, by decide +kernel, by decide +kernel, by decide +kernel⟩⟩
set_option maxHeartbeats 4000000 in
set_option maxRecDepth 100000 in
theorem c_X4_ruleHolds {E : Ev} {a : Nat → Nat} {V : St} {gx : va_W} {bx : Nat → Nat} {Rx : Ru} (hgx : ∀ c ∈ ru E V.2.2.2.2.2.2.1 bx Rx, c ∈ gx) {N : Nat} {o : Int32} (hf : f_X4_ruleHolds N V Rx = some o) : ∀ l, MG l yX4_ruleHolds cX4_ruleHolds 1 (some .boolean) rm_X4_ruleHolds E [.ref (a 0)] [sc E a V, gx] (fun v Y => v = some (.int o) ∧ Y = [sc E a V, gx]) := by
  refine MG.mk (own := RX4) (lv0 := [(0, .ref (a 0))]) (by decide) rfl (Nat.le_of_ble_eq_true rfl) rfl (fun X C K I => ?_)
  unfold f_X4_ruleHolds at hf
  refine g_aload_n C dX4_ruleHolds_0 rfl 0 rfl ?_
  refine g_get (Cl := RX4) (T := TX4) (N := 18) C mi_X4 0 rfl (List.mem_of_getElem? (i := 0) rfl) rfl 6 (by decide) mt_222 rfl rfl dX4_ruleHolds_1 ?_
  refine g_aload_n C dX4_ruleHolds_4 rfl 0 rfl ?_
  refine g_get (Cl := RX4) (T := TX4) (N := 18) C mi_X4 0 rfl (List.mem_of_getElem? (i := 0) rfl) rfl 8 (by decide) mt_226 rfl rfl dX4_ruleHolds_5 ?_
  obtain ⟨o1, hq2, hf⟩ := bind_s hf
  refine g_callV (As := [.int V.2.2.2.2.2.2.2.2.1]) (rest := []) C k_X3_holds (fun l => c_X3_holds (E := E) (g := gx) (r := V.2.2.2.2.2.2.1) (b := bx) (R := Rx) hgx hq2 l) mt_366 [1] rfl (by decide) ⟨_, _, _, _, List.mem_flatten.mpr ⟨_, List.mem_of_getElem? (i := 1) rfl, hgx _ (List.mem_of_getElem? (l := ru E V.2.2.2.2.2.2.1 bx Rx) (i := 0) rfl)⟩, rfl⟩ rfl (Nat.le_of_ble_eq_true rfl) ⟨Nat.le_of_ble_eq_true rfl, Nat.le_of_ble_eq_true rfl, Nat.le_of_ble_eq_true rfl, Nat.le_of_ble_eq_true rfl⟩ dX4_ruleHolds_8 ?_
  rintro _ _ ⟨rfl, rfl⟩
  show G E X 1 [sc E a V, gx] 0 0 [(0, .ref (a 0))] [.int o1] 11
  obtain ⟨z3, hf⟩ := zb_s hf
  obtain rfl := Option.some.inj hf
  exact g_zret C K z3 dX4_ruleHolds_11 (Nat.le_of_ble_eq_true rfl) (Nat.le_of_ble_eq_true rfl) ⟨rfl, rfl⟩
def b_X4_ticksUntilEmpty_53 (N : Nat) (V : St) (Rx : Ru) (s : St × Int32) : Option (Int32 × St) := some (s.2, s.1)
def b_X4_ticksUntilEmpty_40 (N : Nat) (V : St) (Rx : Ru) (s : St × Int32) : Option (Int32 × St) := (if s.1.2.2.2.2.2.2.2.1 = 0 then b_X4_ticksUntilEmpty_53 N V Rx (s.1, s.2) else b_X4_ticksUntilEmpty_53 N V Rx (s.1, (-6 : Int32)))
def b_X4_ticksUntilEmpty_7 (N : Nat) (V : St) (Rx : Ru) (K7 : (St × Int32 × Int32) → Option (Int32 × St)) (s : St × Int32 × Int32) : Option (Int32 × St) := (if (3000 : Int32) ≤ s.2.2 then b_X4_ticksUntilEmpty_40 N V Rx (s.1, s.2.2) else (if s.1.2.2.2.2.2.2.2.1 ≤ 0 then b_X4_ticksUntilEmpty_40 N V Rx (s.1, s.2.2) else (if s.1.2.2.2.2.2.2.2.2.2.1 = (2 : Int32) then b_X4_ticksUntilEmpty_40 N V Rx (s.1, s.2.2) else ((f_X4_passTick N s.1 s.2.1).bind fun o5 => K7 (o5, s.2.1, (s.2.2 + (1 : Int32)))))))
def f_X4_ticksUntilEmpty (N : Nat) (V : St) (Rx : Ru) : Option (Int32 × St) := ((f_X4_ruleHolds N V Rx).bind fun o7 => lp (b_X4_ticksUntilEmpty_7 N V Rx) N (V, o7, (0 : Int32)))
abbrev rm_X4_ticksUntilEmpty : Room := { frames := 5, cells := 0, slots := 0, locals := 115 }
set_option maxRecDepth 100000 in
theorem k_X4_ticksUntilEmpty : CF yX4_ticksUntilEmpty cX4_ticksUntilEmpty 3 (some .int) 0 := ⟨mt_633, mt_634, mt_10, mt_635, ⟨rfl, by decide +kernel, by decide +kernel, by decide +kernel⟩⟩
set_option maxHeartbeats 4000000 in
set_option maxRecDepth 100000 in
theorem c_X4_ticksUntilEmpty {E : Ev} {a : Nat → Nat} {V : St} {gx : va_W} {bx : Nat → Nat} {Rx : Ru} (hgx : ∀ c ∈ ru E V.2.2.2.2.2.2.1 bx Rx, c ∈ gx) {N : Nat} {o : Int32 × St} (hf : f_X4_ticksUntilEmpty N V Rx = some o) : ∀ l, MG l yX4_ticksUntilEmpty cX4_ticksUntilEmpty 3 (some .int) rm_X4_ticksUntilEmpty E [.ref (a 0)] [sc E a V, gx] (fun v Y => v = some (.int o.1) ∧ Y = [sc E a o.2, gx]) := by
  refine MG.mk (own := RX4) (lv0 := [(0, .ref (a 0))]) (by decide) rfl (Nat.le_of_ble_eq_true rfl) rfl (fun X C K I => ?_)
  have h53 : ∀ s : St × Int32, b_X4_ticksUntilEmpty_53 N V Rx s = some o → G E X 3 [sc E a s.1, gx] 0 0 [] [.int s.2] 53 := by
    intro s hf
    unfold b_X4_ticksUntilEmpty_53 at hf
    obtain rfl := Option.some.inj hf
    exact g_iret C K dX4_ticksUntilEmpty_53 (Nat.le_of_ble_eq_true rfl) (Nat.le_of_ble_eq_true rfl) ⟨rfl, rfl⟩
  have h40 : ∀ s : St × Int32, b_X4_ticksUntilEmpty_40 N V Rx s = some o → G E X 3 [sc E a s.1, gx] 0 0 [(0, .ref (a 0)), (2, .int s.2)] [] 40 := by
    intro s hf
    unfold b_X4_ticksUntilEmpty_40 at hf
    refine g_aload_n C dX4_ticksUntilEmpty_40 rfl 0 rfl ?_
    refine g_get (Cl := RX4) (T := TX4) (N := 18) C mi_X4 0 rfl (List.mem_of_getElem? (i := 0) rfl) rfl 7 (by decide) mt_224 rfl rfl dX4_ticksUntilEmpty_41 ?_
    refine g_if_ne (tgt := 51) C dX4_ticksUntilEmpty_44 (by decide) (fun c1 => ?_) (fun c1 => ?_)
    · have hf := (f_if hf).2 c1
      refine g_bipush (v := (-6 : Int32)) C dX4_ticksUntilEmpty_51 (by decide) ?_
      refine g_sub (lv2 := []) [] rfl ?_
      exact h53 (s.1, (-6 : Int32)) hf
    · have hf := (f_if hf).1 c1
      refine g_iload_n C dX4_ticksUntilEmpty_47 rfl 1 rfl ?_
      refine g_goto (tgt := 53) C dX4_ticksUntilEmpty_48 (by decide) ?_
      refine g_sub (lv2 := []) [] rfl ?_
      exact h53 (s.1, s.2) hf
  have h7 : ∀ (n : Nat) (s : St × Int32 × Int32), lp (b_X4_ticksUntilEmpty_7 N V Rx) n s = some o → G E X 3 [sc E a s.1, gx] 0 0 [(0, .ref (a 0)), (1, .int s.2.1), (2, .int s.2.2)] [] 7 := by
    refine lp_ind ?_
    intro K7 hK7 s hf
    unfold b_X4_ticksUntilEmpty_7 at hf
    refine g_iload_n C dX4_ticksUntilEmpty_7 rfl 2 rfl ?_
    refine g_sipush (v := (3000 : Int32)) C dX4_ticksUntilEmpty_8 (by decide) ?_
    refine g_icmp_ge (tgt := 40) C dX4_ticksUntilEmpty_11 (by decide) (fun c2 => ?_) (fun c2 => ?_)
    · have hf := (f_if hf).1 c2
      refine g_sub (lv2 := [(0, .ref (a 0)), (2, .int s.2.2)]) [0, 2] rfl ?_
      exact h40 (s.1, s.2.2) hf
    · have hf := (f_if hf).2 c2
      refine g_aload_n C dX4_ticksUntilEmpty_14 rfl 0 rfl ?_
      refine g_get (Cl := RX4) (T := TX4) (N := 18) C mi_X4 0 rfl (List.mem_of_getElem? (i := 0) rfl) rfl 7 (by decide) mt_224 rfl rfl dX4_ticksUntilEmpty_15 ?_
      refine g_if_le (tgt := 40) C dX4_ticksUntilEmpty_18 (by decide) (fun c3 => ?_) (fun c3 => ?_)
      · have hf := (f_if hf).1 c3
        refine g_sub (lv2 := [(0, .ref (a 0)), (2, .int s.2.2)]) [0, 2] rfl ?_
        exact h40 (s.1, s.2.2) hf
      · have hf := (f_if hf).2 c3
        refine g_aload_n C dX4_ticksUntilEmpty_21 rfl 0 rfl ?_
        refine g_get (Cl := RX4) (T := TX4) (N := 18) C mi_X4 0 rfl (List.mem_of_getElem? (i := 0) rfl) rfl 9 (by decide) mt_228 rfl rfl dX4_ticksUntilEmpty_22 ?_
        refine g_iconst (v := (2 : Int32)) C dX4_ticksUntilEmpty_25 (by decide) ?_
        refine g_icmp_eq (tgt := 40) C dX4_ticksUntilEmpty_26 (by decide) (fun c4 => ?_) (fun c4 => ?_)
        · have hf := (f_if hf).1 c4
          refine g_sub (lv2 := [(0, .ref (a 0)), (2, .int s.2.2)]) [0, 2] rfl ?_
          exact h40 (s.1, s.2.2) hf
        · have hf := (f_if hf).2 c4
          refine g_aload_n C dX4_ticksUntilEmpty_29 rfl 0 rfl ?_
          refine g_iload_n C dX4_ticksUntilEmpty_30 rfl 1 rfl ?_
          obtain ⟨o5, hq6, hf⟩ := bind_s hf
          refine g_callV (As := [.int s.2.1]) (rest := []) C k_X4_passTick (fun l => c_X4_passTick (E := E) (a := a) (V := s.1) hq6 l) mt_485 [0] rfl (by decide) ⟨_, _, _, _, List.mem_flatten.mpr ⟨_, List.mem_of_getElem? (i := 0) rfl, List.mem_of_getElem? (i := 0) rfl⟩, rfl⟩ rfl (Nat.le_of_ble_eq_true rfl) ⟨Nat.le_of_ble_eq_true rfl, Nat.le_of_ble_eq_true rfl, Nat.le_of_ble_eq_true rfl, Nat.le_of_ble_eq_true rfl⟩ dX4_ticksUntilEmpty_31 ?_
          rintro _ _ ⟨rfl, rfl⟩
          show G E X 3 [sc E a o5, gx] 0 0 [(0, .ref (a 0)), (1, .int s.2.1), (2, .int s.2.2)] [] 34
          refine g_iinc (v := (s.2.2 + (1 : Int32))) (lv2 := [(2, .int (s.2.2 + (1 : Int32))), (0, .ref (a 0)), (1, .int s.2.1)]) C dX4_ticksUntilEmpty_34 2 rfl (ii (by decide)) (by decide) rfl ?_
          refine g_goto (tgt := 7) C dX4_ticksUntilEmpty_37 (by decide) ?_
          refine g_sub (lv2 := [(0, .ref (a 0)), (1, .int s.2.1), (2, .int (s.2.2 + (1 : Int32)))]) [1, 2, 0] rfl ?_
          exact hK7 (o5, s.2.1, (s.2.2 + (1 : Int32))) hf
  unfold f_X4_ticksUntilEmpty at hf
  refine g_aload_n C dX4_ticksUntilEmpty_0 rfl 0 rfl ?_
  obtain ⟨o7, hq8, hf⟩ := bind_s hf
  refine g_callV (As := []) (rest := []) C k_X4_ruleHolds (fun l => c_X4_ruleHolds (E := E) (a := a) (V := V) (gx := gx) (bx := bx) (Rx := Rx) hgx hq8 l) mt_636 [0, 1] rfl (by decide) ⟨_, _, _, _, List.mem_flatten.mpr ⟨_, List.mem_of_getElem? (i := 0) rfl, List.mem_of_getElem? (i := 0) rfl⟩, rfl⟩ rfl (Nat.le_of_ble_eq_true rfl) ⟨Nat.le_of_ble_eq_true rfl, Nat.le_of_ble_eq_true rfl, Nat.le_of_ble_eq_true rfl, Nat.le_of_ble_eq_true rfl⟩ dX4_ticksUntilEmpty_1 ?_
  rintro _ _ ⟨rfl, rfl⟩
  show G E X 3 [sc E a V, gx] 0 0 [(0, .ref (a 0))] [.int o7] 4
  refine g_istore_n (lv2 := [(1, .int o7), (0, .ref (a 0))]) C dX4_ticksUntilEmpty_4 rfl (by decide) rfl ?_
  refine g_iconst (v := (0 : Int32)) C dX4_ticksUntilEmpty_5 (by decide) ?_
  refine g_istore_n (lv2 := [(2, .int (0 : Int32)), (1, .int o7), (0, .ref (a 0))]) C dX4_ticksUntilEmpty_6 rfl (by decide) rfl ?_
  refine g_sub (lv2 := [(0, .ref (a 0)), (1, .int o7), (2, .int (0 : Int32))]) [2, 1, 0] rfl ?_
  exact h7 N (V, o7, (0 : Int32)) hf
theorem cpr {V W o : St} (h : f_X4_copy V W = some o) : o.2.2.2.2.2.2.1 = W.2.2.2.2.2.2.1 := by
  unfold f_X4_copy at h
  obtain rfl := Option.some.inj h
  rfl
