def f_X3_add (V : Ru) (p0 : Int32) (p1 : Int32) (p2 : Int32) (p3 : Int32) : Option (Int32 × Ru) := (if V.2.2.2.2.1 < (60 : Int32) then (ix V.2.2.2.2.1 60 (ix V.2.2.2.2.1 60 (ix V.2.2.2.2.1 60 (ix V.2.2.2.2.1 60 (some (((V.2.2.2.2.1 + (1 : Int32)) - (1 : Int32)), ((upd V.1 (Int32.toNatClampNeg V.2.2.2.2.1) (vp_nar .char p0)), (upd V.2.1 (Int32.toNatClampNeg V.2.2.2.2.1) p1), (upd V.2.2.1 (Int32.toNatClampNeg V.2.2.2.2.1) p2), (upd V.2.2.2.1 (Int32.toNatClampNeg V.2.2.2.2.1) p3), (V.2.2.2.2.1 + (1 : Int32)), V.2.2.2.2.2))))))) else some ((0 : Int32), V))
abbrev rm_X3_add : Room := { frames := 0, cells := 0, slots := 0, locals := 0 }
set_option maxRecDepth 100000 in
theorem k_X3_add : CF yX3_add cX3_add 5 (some .int) 4 := ⟨mt_185, mp_7, mt_8, mt_186, ⟨rfl, by decide +kernel, by decide +kernel, by decide +kernel⟩⟩
set_option maxHeartbeats 4000000 in
set_option maxRecDepth 100000 in
theorem c_X3_add {E : Ev} {a : Nat → Nat} {V : Ru} {p0 : Int32} {p1 : Int32} {p2 : Int32} {p3 : Int32} {o : Int32 × Ru} (hf : f_X3_add V p0 p1 p2 p3 = some o) : ∀ l, MG l yX3_add cX3_add 5 (some .int) rm_X3_add E [.ref (a 0), .int p0, .int p1, .int p2, .int p3] [ru E (a 0) a V] (fun v Y => v = some (.int o.1) ∧ Y = [ru E (a 0) a o.2]) := by
  refine MG.mk (own := RX3) (lv0 := [(0, .ref (a 0)), (1, .int p0), (2, .int p1), (3, .int p2), (4, .int p3)]) (by decide) rfl (Nat.le_of_ble_eq_true rfl) rfl (fun X C K I => ?_)
  unfold f_X3_add at hf
  refine g_aload_n C dX3_add_0 rfl 0 rfl ?_
  refine g_get (Cl := RX3) (T := TX3) (N := 6) C mi_X3 0 rfl (List.mem_of_getElem? (i := 0) rfl) rfl 4 (by decide) mt_129 rfl rfl dX3_add_1 ?_
  refine g_bipush (v := (60 : Int32)) C dX3_add_4 (by decide) ?_
  refine g_icmp_lt (tgt := 11) C dX3_add_6 (by decide) (fun c1 => ?_) (fun c1 => ?_)
  · have hf := (f_if hf).1 c1
    refine g_aload_n C dX3_add_11 rfl 0 rfl ?_
    refine g_get (Cl := RX3) (T := TX3) (N := 6) C mi_X3 0 rfl (List.mem_of_getElem? (i := 0) rfl) rfl 0 (by decide) mt_125 rfl rfl dX3_add_12 ?_
    refine g_aload_n C dX3_add_15 rfl 0 rfl ?_
    refine g_get (Cl := RX3) (T := TX3) (N := 6) C mi_X3 0 rfl (List.mem_of_getElem? (i := 0) rfl) rfl 4 (by decide) mt_129 rfl rfl dX3_add_16 ?_
    refine g_iload_n C dX3_add_19 rfl 1 rfl ?_
    obtain ⟨i2, hf⟩ := ix_s hf
    refine g_cast (Y2 := [ru E (a 0) a ((upd V.1 (Int32.toNatClampNeg V.2.2.2.2.1) (vp_nar .char p0)), V.2.1, V.2.2.1, V.2.2.2.1, V.2.2.2.2.1, V.2.2.2.2.2)]) C 0 1 rfl rfl i2 dX3_add_20 rfl ?_
    refine g_aload_n C dX3_add_21 rfl 0 rfl ?_
    refine g_get (Cl := RX3) (T := TX3) (N := 6) C mi_X3 0 rfl (List.mem_of_getElem? (i := 0) rfl) rfl 1 (by decide) mt_126 rfl rfl dX3_add_22 ?_
    refine g_aload_n C dX3_add_25 rfl 0 rfl ?_
    refine g_get (Cl := RX3) (T := TX3) (N := 6) C mi_X3 0 rfl (List.mem_of_getElem? (i := 0) rfl) rfl 4 (by decide) mt_129 rfl rfl dX3_add_26 ?_
    refine g_iload_n C dX3_add_29 rfl 2 rfl ?_
    obtain ⟨i3, hf⟩ := ix_s hf
    refine g_iast (Y2 := [ru E (a 0) a ((upd V.1 (Int32.toNatClampNeg V.2.2.2.2.1) (vp_nar .char p0)), (upd V.2.1 (Int32.toNatClampNeg V.2.2.2.2.1) p1), V.2.2.1, V.2.2.2.1, V.2.2.2.2.1, V.2.2.2.2.2)]) C 0 2 rfl rfl i3 dX3_add_30 rfl ?_
    refine g_aload_n C dX3_add_31 rfl 0 rfl ?_
    refine g_get (Cl := RX3) (T := TX3) (N := 6) C mi_X3 0 rfl (List.mem_of_getElem? (i := 0) rfl) rfl 2 (by decide) mt_127 rfl rfl dX3_add_32 ?_
    refine g_aload_n C dX3_add_35 rfl 0 rfl ?_
    refine g_get (Cl := RX3) (T := TX3) (N := 6) C mi_X3 0 rfl (List.mem_of_getElem? (i := 0) rfl) rfl 4 (by decide) mt_129 rfl rfl dX3_add_36 ?_
    refine g_iload_n C dX3_add_39 rfl 3 rfl ?_
    obtain ⟨i4, hf⟩ := ix_s hf
    refine g_iast (Y2 := [ru E (a 0) a ((upd V.1 (Int32.toNatClampNeg V.2.2.2.2.1) (vp_nar .char p0)), (upd V.2.1 (Int32.toNatClampNeg V.2.2.2.2.1) p1), (upd V.2.2.1 (Int32.toNatClampNeg V.2.2.2.2.1) p2), V.2.2.2.1, V.2.2.2.2.1, V.2.2.2.2.2)]) C 0 3 rfl rfl i4 dX3_add_40 rfl ?_
    refine g_aload_n C dX3_add_41 rfl 0 rfl ?_
    refine g_get (Cl := RX3) (T := TX3) (N := 6) C mi_X3 0 rfl (List.mem_of_getElem? (i := 0) rfl) rfl 3 (by decide) mt_128 rfl rfl dX3_add_42 ?_
    refine g_aload_n C dX3_add_45 rfl 0 rfl ?_
    refine g_get (Cl := RX3) (T := TX3) (N := 6) C mi_X3 0 rfl (List.mem_of_getElem? (i := 0) rfl) rfl 4 (by decide) mt_129 rfl rfl dX3_add_46 ?_
    refine g_iload C dX3_add_49 4 rfl ?_
    obtain ⟨i5, hf⟩ := ix_s hf
    refine g_iast (Y2 := [ru E (a 0) a ((upd V.1 (Int32.toNatClampNeg V.2.2.2.2.1) (vp_nar .char p0)), (upd V.2.1 (Int32.toNatClampNeg V.2.2.2.2.1) p1), (upd V.2.2.1 (Int32.toNatClampNeg V.2.2.2.2.1) p2), (upd V.2.2.2.1 (Int32.toNatClampNeg V.2.2.2.2.1) p3), V.2.2.2.2.1, V.2.2.2.2.2)]) C 0 4 rfl rfl i5 dX3_add_51 rfl ?_
    refine g_aload_n C dX3_add_52 rfl 0 rfl ?_
    refine g_dup C dX3_add_53 rfl ?_
    refine g_get (Cl := RX3) (T := TX3) (N := 6) C mi_X3 0 rfl (List.mem_of_getElem? (i := 0) rfl) rfl 4 (by decide) mt_129 rfl rfl dX3_add_54 ?_
    refine g_iconst (v := (1 : Int32)) C dX3_add_57 (by decide) ?_
    refine g_iadd C dX3_add_58 ?_
    refine g_put (Cl := RX3) (T := TX3) (N := 6) (Y2 := [ru E (a 0) a ((upd V.1 (Int32.toNatClampNeg V.2.2.2.2.1) (vp_nar .char p0)), (upd V.2.1 (Int32.toNatClampNeg V.2.2.2.2.1) p1), (upd V.2.2.1 (Int32.toNatClampNeg V.2.2.2.2.1) p2), (upd V.2.2.2.1 (Int32.toNatClampNeg V.2.2.2.2.1) p3), (V.2.2.2.2.1 + (1 : Int32)), V.2.2.2.2.2)]) C mi_X3 tyX3_ok nmX3 0 0 rfl rfl rfl 4 (by decide) mt_129 rfl rfl rfl rfl rfl (Nat.le_of_ble_eq_true rfl) dX3_add_59 rfl ?_
    refine g_aload_n C dX3_add_62 rfl 0 rfl ?_
    refine g_get (Cl := RX3) (T := TX3) (N := 6) C mi_X3 0 rfl (List.mem_of_getElem? (i := 0) rfl) rfl 4 (by decide) mt_129 rfl rfl dX3_add_63 ?_
    refine g_iconst (v := (1 : Int32)) C dX3_add_66 (by decide) ?_
    refine g_isub C dX3_add_67 ?_
    obtain rfl := Option.some.inj hf
    exact g_iret C K dX3_add_68 (Nat.le_of_ble_eq_true rfl) (Nat.le_of_ble_eq_true rfl) ⟨rfl, rfl⟩
  · have hf := (f_if hf).2 c1
    refine g_iconst (v := (0 : Int32)) C dX3_add_9 (by decide) ?_
    obtain rfl := Option.some.inj hf
    exact g_iret C K dX3_add_10 (Nat.le_of_ble_eq_true rfl) (Nat.le_of_ble_eq_true rfl) ⟨rfl, rfl⟩
def f_X3_addLetter (V : Ru) (p0 : Int32) : Option (Int32 × Ru) := ((f_X3_letterNumber V p0).bind fun o1 => ((f_X3_add (V.1, V.2.1, V.2.2.1, V.2.2.2.1, V.2.2.2.2.1, (V.2.2.2.2.2 ||| ((1 : Int32) <<< (o1 &&& 31)))) p0 (0 : Int32) (0 : Int32) (1 : Int32)).bind fun o3 => some (o3.1, o3.2)))
abbrev rm_X3_addLetter : Room := { frames := 1, cells := 0, slots := 0, locals := 24 }
set_option maxRecDepth 100000 in
theorem k_X3_addLetter : CF yX3_addLetter cX3_addLetter 2 (some .int) 1 := ⟨mt_193, mt_194, mt_8, mt_195, ⟨rfl, by decide +kernel, by decide +kernel, by decide +kernel⟩⟩
set_option maxHeartbeats 4000000 in
set_option maxRecDepth 100000 in
theorem c_X3_addLetter {E : Ev} {a : Nat → Nat} {V : Ru} {p0 : Int32} {o : Int32 × Ru} (hf : f_X3_addLetter V p0 = some o) : ∀ l, MG l yX3_addLetter cX3_addLetter 2 (some .int) rm_X3_addLetter E [.ref (a 0), .int p0] [ru E (a 0) a V] (fun v Y => v = some (.int o.1) ∧ Y = [ru E (a 0) a o.2]) := by
  refine MG.mk (own := RX3) (lv0 := [(0, .ref (a 0)), (1, .int p0)]) (by decide) rfl (Nat.le_of_ble_eq_true rfl) rfl (fun X C K I => ?_)
  unfold f_X3_addLetter at hf
  refine g_aload_n C dX3_addLetter_0 rfl 0 rfl ?_
  refine g_dup C dX3_addLetter_1 rfl ?_
  refine g_get (Cl := RX3) (T := TX3) (N := 6) C mi_X3 0 rfl (List.mem_of_getElem? (i := 0) rfl) rfl 5 (by decide) mt_131 rfl rfl dX3_addLetter_2 ?_
  refine g_iconst (v := (1 : Int32)) C dX3_addLetter_5 (by decide) ?_
  refine g_aload_n C dX3_addLetter_6 rfl 0 rfl ?_
  refine g_iload_n C dX3_addLetter_7 rfl 1 rfl ?_
  obtain ⟨o1, hq2, hf⟩ := bind_s hf
  refine g_callV (As := [.int p0]) (rest := [.int (1 : Int32), .int V.2.2.2.2.2, .ref (a 0)]) C k_X3_letterNumber (fun l => c_X3_letterNumber (E := E) (g := (ru E (a 0) a V)) (r := (a 0)) (b := a) (R := V) (fun _ h => h) hq2 l) mt_196 [0] rfl (by decide) ⟨_, _, _, _, List.mem_flatten.mpr ⟨_, List.mem_of_getElem? (i := 0) rfl, List.mem_of_getElem? (i := 0) rfl⟩, rfl⟩ rfl (Nat.le_of_ble_eq_true rfl) ⟨Nat.le_of_ble_eq_true rfl, Nat.le_of_ble_eq_true rfl, Nat.le_of_ble_eq_true rfl, Nat.le_of_ble_eq_true rfl⟩ dX3_addLetter_8 ?_
  rintro _ _ ⟨rfl, rfl⟩
  show G E X 2 [ru E (a 0) a V] 0 0 [(0, .ref (a 0)), (1, .int p0)] [.int o1, .int (1 : Int32), .int V.2.2.2.2.2, .ref (a 0)] 11
  refine g_ishl C dX3_addLetter_11 ?_
  refine g_ior C dX3_addLetter_12 ?_
  refine g_put (Cl := RX3) (T := TX3) (N := 6) (Y2 := [ru E (a 0) a (V.1, V.2.1, V.2.2.1, V.2.2.2.1, V.2.2.2.2.1, (V.2.2.2.2.2 ||| ((1 : Int32) <<< (o1 &&& 31))))]) C mi_X3 tyX3_ok nmX3 0 0 rfl rfl rfl 5 (by decide) mt_131 rfl rfl rfl rfl rfl (Nat.le_of_ble_eq_true rfl) dX3_addLetter_13 rfl ?_
  refine g_aload_n C dX3_addLetter_16 rfl 0 rfl ?_
  refine g_iload_n C dX3_addLetter_17 rfl 1 rfl ?_
  refine g_iconst (v := (0 : Int32)) C dX3_addLetter_18 (by decide) ?_
  refine g_iconst (v := (0 : Int32)) C dX3_addLetter_19 (by decide) ?_
  refine g_iconst (v := (1 : Int32)) C dX3_addLetter_20 (by decide) ?_
  obtain ⟨o3, hq4, hf⟩ := bind_s hf
  refine g_callV (As := [.int p0, .int (0 : Int32), .int (0 : Int32), .int (1 : Int32)]) (rest := []) C k_X3_add (fun l => c_X3_add (E := E) (a := a) (V := (V.1, V.2.1, V.2.2.1, V.2.2.2.1, V.2.2.2.2.1, (V.2.2.2.2.2 ||| ((1 : Int32) <<< (o1 &&& 31))))) hq4 l) mt_183 [0] rfl (by decide) ⟨_, _, _, _, List.mem_flatten.mpr ⟨_, List.mem_of_getElem? (i := 0) rfl, List.mem_of_getElem? (i := 0) rfl⟩, rfl⟩ rfl (Nat.le_of_ble_eq_true rfl) ⟨Nat.le_of_ble_eq_true rfl, Nat.le_of_ble_eq_true rfl, Nat.le_of_ble_eq_true rfl, Nat.le_of_ble_eq_true rfl⟩ dX3_addLetter_21 ?_
  rintro _ _ ⟨rfl, rfl⟩
  show G E X 2 [ru E (a 0) a o3.2] 0 0 [(0, .ref (a 0)), (1, .int p0)] [.int o3.1] 24
  obtain rfl := Option.some.inj hf
  exact g_iret C K dX3_addLetter_24 (Nat.le_of_ble_eq_true rfl) (Nat.le_of_ble_eq_true rfl) ⟨rfl, rfl⟩
def f_X3_addJoint (V : Ru) (p0 : Int32) (p1 : Int32) (p2 : Int32) : Option (Int32 × Ru) := ((f_X3_depthOf V p1).bind fun o1 => ((f_X3_depthOf V p2).bind fun o3 => ((f_X3_add V p0 p1 p2 ((1 : Int32) + (if o1 < o3 then o3 else o1))).bind fun o5 => some (o5.1, o5.2))))
abbrev rm_X3_addJoint : Room := { frames := 1, cells := 0, slots := 0, locals := 24 }
set_option maxRecDepth 100000 in
theorem k_X3_addJoint : CF yX3_addJoint cX3_addJoint 5 (some .int) 3 := ⟨mt_173, mt_174, mt_8, mt_175, ⟨rfl, by decide +kernel, by decide +kernel, by decide +kernel⟩⟩
set_option maxHeartbeats 4000000 in
set_option maxRecDepth 100000 in
theorem c_X3_addJoint {E : Ev} {a : Nat → Nat} {V : Ru} {p0 : Int32} {p1 : Int32} {p2 : Int32} {o : Int32 × Ru} (hf : f_X3_addJoint V p0 p1 p2 = some o) : ∀ l, MG l yX3_addJoint cX3_addJoint 5 (some .int) rm_X3_addJoint E [.ref (a 0), .int p0, .int p1, .int p2] [ru E (a 0) a V] (fun v Y => v = some (.int o.1) ∧ Y = [ru E (a 0) a o.2]) := by
  refine MG.mk (own := RX3) (lv0 := [(0, .ref (a 0)), (1, .int p0), (2, .int p1), (3, .int p2)]) (by decide) rfl (Nat.le_of_ble_eq_true rfl) rfl (fun X C K I => ?_)
  unfold f_X3_addJoint at hf
  refine g_aload_n C dX3_addJoint_0 rfl 0 rfl ?_
  refine g_iload_n C dX3_addJoint_1 rfl 2 rfl ?_
  obtain ⟨o1, hq2, hf⟩ := bind_s hf
  refine g_callV (As := [.int p1]) (rest := []) C k_X3_depthOf (fun l => c_X3_depthOf (E := E) (g := (ru E (a 0) a V)) (r := (a 0)) (b := a) (R := V) (fun _ h => h) hq2 l) mt_176 [0] rfl (by decide) ⟨_, _, _, _, List.mem_flatten.mpr ⟨_, List.mem_of_getElem? (i := 0) rfl, List.mem_of_getElem? (i := 0) rfl⟩, rfl⟩ rfl (Nat.le_of_ble_eq_true rfl) ⟨Nat.le_of_ble_eq_true rfl, Nat.le_of_ble_eq_true rfl, Nat.le_of_ble_eq_true rfl, Nat.le_of_ble_eq_true rfl⟩ dX3_addJoint_2 ?_
  rintro _ _ ⟨rfl, rfl⟩
  show G E X 5 [ru E (a 0) a V] 0 0 [(0, .ref (a 0)), (1, .int p0), (2, .int p1), (3, .int p2)] [.int o1] 5
  refine g_aload_n C dX3_addJoint_5 rfl 0 rfl ?_
  refine g_iload_n C dX3_addJoint_6 rfl 3 rfl ?_
  obtain ⟨o3, hq4, hf⟩ := bind_s hf
  refine g_callV (As := [.int p2]) (rest := [.int o1]) C k_X3_depthOf (fun l => c_X3_depthOf (E := E) (g := (ru E (a 0) a V)) (r := (a 0)) (b := a) (R := V) (fun _ h => h) hq4 l) mt_176 [0] rfl (by decide) ⟨_, _, _, _, List.mem_flatten.mpr ⟨_, List.mem_of_getElem? (i := 0) rfl, List.mem_of_getElem? (i := 0) rfl⟩, rfl⟩ rfl (Nat.le_of_ble_eq_true rfl) ⟨Nat.le_of_ble_eq_true rfl, Nat.le_of_ble_eq_true rfl, Nat.le_of_ble_eq_true rfl, Nat.le_of_ble_eq_true rfl⟩ dX3_addJoint_7 ?_
  rintro _ _ ⟨rfl, rfl⟩
  show G E X 5 [ru E (a 0) a V] 0 0 [(0, .ref (a 0)), (1, .int p0), (2, .int p1), (3, .int p2)] [.int o3, .int o1] 10
  refine g_mmax C mt_180 mt_181 mt_9 mt_182 (Nat.le_of_ble_eq_true rfl) (Nat.le_of_ble_eq_true rfl) (Nat.le_of_ble_eq_true rfl) (Nat.le_of_ble_eq_true rfl) dX3_addJoint_10 ?_
  refine g_istore (lv2 := [(4, .int (if o1 < o3 then o3 else o1)), (0, .ref (a 0)), (1, .int p0), (2, .int p1), (3, .int p2)]) C dX3_addJoint_13 (by decide) rfl ?_
  refine g_aload_n C dX3_addJoint_15 rfl 1 rfl ?_
  refine g_iload_n C dX3_addJoint_16 rfl 2 rfl ?_
  refine g_iload_n C dX3_addJoint_17 rfl 3 rfl ?_
  refine g_iload_n C dX3_addJoint_18 rfl 4 rfl ?_
  refine g_iconst (v := (1 : Int32)) C dX3_addJoint_19 (by decide) ?_
  refine g_iload C dX3_addJoint_20 0 rfl ?_
  refine g_iadd C dX3_addJoint_22 ?_
  obtain ⟨o5, hq6, hf⟩ := bind_s hf
  refine g_callV (As := [.int p0, .int p1, .int p2, .int ((1 : Int32) + (if o1 < o3 then o3 else o1))]) (rest := []) C k_X3_add (fun l => c_X3_add (E := E) (a := a) (V := V) hq6 l) mt_183 [0] rfl (by decide) ⟨_, _, _, _, List.mem_flatten.mpr ⟨_, List.mem_of_getElem? (i := 0) rfl, List.mem_of_getElem? (i := 0) rfl⟩, rfl⟩ rfl (Nat.le_of_ble_eq_true rfl) ⟨Nat.le_of_ble_eq_true rfl, Nat.le_of_ble_eq_true rfl, Nat.le_of_ble_eq_true rfl, Nat.le_of_ble_eq_true rfl⟩ dX3_addJoint_23 ?_
  rintro _ _ ⟨rfl, rfl⟩
  show G E X 5 [ru E (a 0) a o5.2] 0 0 [(4, .int (if o1 < o3 then o3 else o1)), (0, .ref (a 0)), (1, .int p0), (2, .int p1), (3, .int p2)] [.int o5.1] 26
  obtain rfl := Option.some.inj hf
  exact g_iret C K dX3_addJoint_26 (Nat.le_of_ble_eq_true rfl) (Nat.le_of_ble_eq_true rfl) ⟨rfl, rfl⟩
def f_X2_strength (V : Rd) (p0 : Int32) : Option (Int32) := (if p0 = (33 : Int32) then some (3 : Int32) else (if p0 = (38 : Int32) then some (2 : Int32) else (if p0 = (124 : Int32) then some (1 : Int32) else some (0 : Int32))))
abbrev rm_X2_strength : Room := { frames := 0, cells := 0, slots := 0, locals := 0 }
set_option maxRecDepth 100000 in
theorem k_X2_strength : CF yX2_strength cX2_strength 2 (some .int) 1 := ⟨mt_162, mp_3, mt_3, mt_163, ⟨rfl, by decide +kernel, by decide +kernel, by decide +kernel⟩⟩
set_option maxHeartbeats 4000000 in
set_option maxRecDepth 100000 in
theorem c_X2_strength {E : Ev} {a : Nat → Nat} {V : Rd} {p0 : Int32} {o : Int32} (hf : f_X2_strength V p0 = some o) : ∀ l, MG l yX2_strength cX2_strength 2 (some .int) rm_X2_strength E [.ref (a 0), .int p0] [rd E a V] (fun v Y => v = some (.int o) ∧ Y = [rd E a V]) := by
  refine MG.mk (own := RX2) (lv0 := [(0, .ref (a 0)), (1, .int p0)]) (by decide) rfl (Nat.le_of_ble_eq_true rfl) rfl (fun X C K I => ?_)
  unfold f_X2_strength at hf
  refine g_iload_n C dX2_strength_0 rfl 1 rfl ?_
  by_cases c1 : p0 = (33 : Int32)
  · have hf := (f_if hf).1 c1
    refine g_lookup (tgt := 36) C dX2_strength_1 (by decide) (by rw [c1] <;> rfl) (by decide) ?_
    refine g_iconst (v := (3 : Int32)) C dX2_strength_36 (by decide) ?_
    obtain rfl := Option.some.inj hf
    exact g_iret C K dX2_strength_37 (Nat.le_of_ble_eq_true rfl) (Nat.le_of_ble_eq_true rfl) ⟨rfl, rfl⟩
  have hf := (f_if hf).2 c1
  by_cases c2 : p0 = (38 : Int32)
  · have hf := (f_if hf).1 c2
    refine g_lookup (tgt := 38) C dX2_strength_1 (by decide) (by rw [c2] <;> rfl) (by decide) ?_
    refine g_iconst (v := (2 : Int32)) C dX2_strength_38 (by decide) ?_
    obtain rfl := Option.some.inj hf
    exact g_iret C K dX2_strength_39 (Nat.le_of_ble_eq_true rfl) (Nat.le_of_ble_eq_true rfl) ⟨rfl, rfl⟩
  have hf := (f_if hf).2 c2
  by_cases c3 : p0 = (124 : Int32)
  · have hf := (f_if hf).1 c3
    refine g_lookup (tgt := 40) C dX2_strength_1 (by decide) (by rw [c3] <;> rfl) (by decide) ?_
    refine g_iconst (v := (1 : Int32)) C dX2_strength_40 (by decide) ?_
    obtain rfl := Option.some.inj hf
    exact g_iret C K dX2_strength_41 (Nat.le_of_ble_eq_true rfl) (Nat.le_of_ble_eq_true rfl) ⟨rfl, rfl⟩
  have hf := (f_if hf).2 c3
  refine g_lookup (tgt := 42) (off := 41) C dX2_strength_1 (by decide) (by show Op.lookupswitch.offset [(33, 35), (38, 37), (124, 39)] _ _ = _; rw [lv_osw (a := 33) c1 rfl, lv_osw (a := 38) c2 rfl, lv_osw (a := 124) c3 rfl] <;> rfl) (by decide) ?_
  refine g_iconst (v := (0 : Int32)) C dX2_strength_42 (by decide) ?_
  obtain rfl := Option.some.inj hf
  exact g_iret C K dX2_strength_43 (Nat.le_of_ble_eq_true rfl) (Nat.le_of_ble_eq_true rfl) ⟨rfl, rfl⟩
def b_X2_keepWaiting_29 (V : Rd) (p0 : Int32) (s : Rd) : Option (Rd) := some s
def f_X2_keepWaiting (V : Rd) (p0 : Int32) : Option (Rd) := (if (60 : Int32) ≤ V.2.2.1 then b_X2_keepWaiting_29 V p0 V else (ix V.2.2.1 60 (b_X2_keepWaiting_29 V p0 ((upd V.1 (Int32.toNatClampNeg V.2.2.1) (vp_nar .char p0)), V.2.1, (V.2.2.1 + (1 : Int32)), V.2.2.2))))
abbrev rm_X2_keepWaiting : Room := { frames := 0, cells := 0, slots := 0, locals := 0 }
set_option maxRecDepth 100000 in
theorem k_X2_keepWaiting : CF yX2_keepWaiting cX2_keepWaiting 2 (Option.none : Option FieldType) 1 := ⟨mt_154, mp_1, mt_3, mt_155, ⟨rfl, by decide +kernel, by decide +kernel, by decide +kernel⟩⟩
set_option maxHeartbeats 4000000 in
set_option maxRecDepth 100000 in
theorem c_X2_keepWaiting {E : Ev} {a : Nat → Nat} {V : Rd} {p0 : Int32} {o : Rd} (hf : f_X2_keepWaiting V p0 = some o) : ∀ l, MG l yX2_keepWaiting cX2_keepWaiting 2 (Option.none : Option FieldType) rm_X2_keepWaiting E [.ref (a 0), .int p0] [rd E a V] (fun v Y => v = none ∧ Y = [rd E a o]) := by
  refine MG.mk (own := RX2) (lv0 := [(0, .ref (a 0)), (1, .int p0)]) (by decide) rfl (Nat.le_of_ble_eq_true rfl) rfl (fun X C K I => ?_)
  have h29 : ∀ s : Rd, b_X2_keepWaiting_29 V p0 s = some o → G E X 2 [rd E a s] 0 0 [] [] 29 := by
    intro s hf
    unfold b_X2_keepWaiting_29 at hf
    obtain rfl := Option.some.inj hf
    exact g_ret C K dX2_keepWaiting_29 (Nat.le_of_ble_eq_true rfl) (Nat.le_of_ble_eq_true rfl) ⟨rfl, rfl⟩
  unfold f_X2_keepWaiting at hf
  refine g_aload_n C dX2_keepWaiting_0 rfl 0 rfl ?_
  refine g_get (Cl := RX2) (T := TX2) (N := 4) C mi_X2 0 rfl (List.mem_of_getElem? (i := 0) rfl) rfl 2 (by decide) mt_47 rfl rfl dX2_keepWaiting_1 ?_
  refine g_bipush (v := (60 : Int32)) C dX2_keepWaiting_4 (by decide) ?_
  refine g_icmp_ge (tgt := 29) C dX2_keepWaiting_6 (by decide) (fun c1 => ?_) (fun c1 => ?_)
  · have hf := (f_if hf).1 c1
    refine g_sub (lv2 := []) [] rfl ?_
    exact h29 V hf
  · have hf := (f_if hf).2 c1
    refine g_aload_n C dX2_keepWaiting_9 rfl 0 rfl ?_
    refine g_get (Cl := RX2) (T := TX2) (N := 4) C mi_X2 0 rfl (List.mem_of_getElem? (i := 0) rfl) rfl 0 (by decide) mt_45 rfl rfl dX2_keepWaiting_10 ?_
    refine g_aload_n C dX2_keepWaiting_13 rfl 0 rfl ?_
    refine g_get (Cl := RX2) (T := TX2) (N := 4) C mi_X2 0 rfl (List.mem_of_getElem? (i := 0) rfl) rfl 2 (by decide) mt_47 rfl rfl dX2_keepWaiting_14 ?_
    refine g_iload_n C dX2_keepWaiting_17 rfl 1 rfl ?_
    obtain ⟨i2, hf⟩ := ix_s hf
    refine g_cast (Y2 := [rd E a ((upd V.1 (Int32.toNatClampNeg V.2.2.1) (vp_nar .char p0)), V.2.1, V.2.2.1, V.2.2.2)]) C 0 1 rfl rfl i2 dX2_keepWaiting_18 rfl ?_
    refine g_aload_n C dX2_keepWaiting_19 rfl 0 rfl ?_
    refine g_dup C dX2_keepWaiting_20 rfl ?_
    refine g_get (Cl := RX2) (T := TX2) (N := 4) C mi_X2 0 rfl (List.mem_of_getElem? (i := 0) rfl) rfl 2 (by decide) mt_47 rfl rfl dX2_keepWaiting_21 ?_
    refine g_iconst (v := (1 : Int32)) C dX2_keepWaiting_24 (by decide) ?_
    refine g_iadd C dX2_keepWaiting_25 ?_
    refine g_put (Cl := RX2) (T := TX2) (N := 4) (Y2 := [rd E a ((upd V.1 (Int32.toNatClampNeg V.2.2.1) (vp_nar .char p0)), V.2.1, (V.2.2.1 + (1 : Int32)), V.2.2.2)]) C mi_X2 tyX2_ok nmX2 0 0 rfl rfl rfl 2 (by decide) mt_47 rfl rfl rfl rfl rfl (Nat.le_of_ble_eq_true rfl) dX2_keepWaiting_26 rfl ?_
    refine g_sub (lv2 := []) [] rfl ?_
    exact h29 ((upd V.1 (Int32.toNatClampNeg V.2.2.1) (vp_nar .char p0)), V.2.1, (V.2.2.1 + (1 : Int32)), V.2.2.2) hf
def b_X2_keepFree_29 (V : Rd) (p0 : Int32) (s : Rd) : Option (Rd) := some s
def f_X2_keepFree (V : Rd) (p0 : Int32) : Option (Rd) := (if (60 : Int32) ≤ V.2.2.2 then b_X2_keepFree_29 V p0 V else (ix V.2.2.2 60 (b_X2_keepFree_29 V p0 (V.1, (upd V.2.1 (Int32.toNatClampNeg V.2.2.2) p0), V.2.2.1, (V.2.2.2 + (1 : Int32))))))
abbrev rm_X2_keepFree : Room := { frames := 0, cells := 0, slots := 0, locals := 0 }
set_option maxRecDepth 100000 in
theorem k_X2_keepFree : CF yX2_keepFree cX2_keepFree 2 (Option.none : Option FieldType) 1 := ⟨mt_189, mp_8, mt_3, mt_190, ⟨rfl, by decide +kernel, by decide +kernel, by decide +kernel⟩⟩
set_option maxHeartbeats 4000000 in
set_option maxRecDepth 100000 in
theorem c_X2_keepFree {E : Ev} {a : Nat → Nat} {V : Rd} {p0 : Int32} {o : Rd} (hf : f_X2_keepFree V p0 = some o) : ∀ l, MG l yX2_keepFree cX2_keepFree 2 (Option.none : Option FieldType) rm_X2_keepFree E [.ref (a 0), .int p0] [rd E a V] (fun v Y => v = none ∧ Y = [rd E a o]) := by
  refine MG.mk (own := RX2) (lv0 := [(0, .ref (a 0)), (1, .int p0)]) (by decide) rfl (Nat.le_of_ble_eq_true rfl) rfl (fun X C K I => ?_)
  have h29 : ∀ s : Rd, b_X2_keepFree_29 V p0 s = some o → G E X 2 [rd E a s] 0 0 [] [] 29 := by
    intro s hf
    unfold b_X2_keepFree_29 at hf
    obtain rfl := Option.some.inj hf
    exact g_ret C K dX2_keepFree_29 (Nat.le_of_ble_eq_true rfl) (Nat.le_of_ble_eq_true rfl) ⟨rfl, rfl⟩
  unfold f_X2_keepFree at hf
  refine g_aload_n C dX2_keepFree_0 rfl 0 rfl ?_
  refine g_get (Cl := RX2) (T := TX2) (N := 4) C mi_X2 0 rfl (List.mem_of_getElem? (i := 0) rfl) rfl 3 (by decide) mt_48 rfl rfl dX2_keepFree_1 ?_
  refine g_bipush (v := (60 : Int32)) C dX2_keepFree_4 (by decide) ?_
  refine g_icmp_ge (tgt := 29) C dX2_keepFree_6 (by decide) (fun c1 => ?_) (fun c1 => ?_)
  · have hf := (f_if hf).1 c1
    refine g_sub (lv2 := []) [] rfl ?_
    exact h29 V hf
  · have hf := (f_if hf).2 c1
    refine g_aload_n C dX2_keepFree_9 rfl 0 rfl ?_
    refine g_get (Cl := RX2) (T := TX2) (N := 4) C mi_X2 0 rfl (List.mem_of_getElem? (i := 0) rfl) rfl 1 (by decide) mt_46 rfl rfl dX2_keepFree_10 ?_
    refine g_aload_n C dX2_keepFree_13 rfl 0 rfl ?_
    refine g_get (Cl := RX2) (T := TX2) (N := 4) C mi_X2 0 rfl (List.mem_of_getElem? (i := 0) rfl) rfl 3 (by decide) mt_48 rfl rfl dX2_keepFree_14 ?_
    refine g_iload_n C dX2_keepFree_17 rfl 1 rfl ?_
    obtain ⟨i2, hf⟩ := ix_s hf
    refine g_iast (Y2 := [rd E a (V.1, (upd V.2.1 (Int32.toNatClampNeg V.2.2.2) p0), V.2.2.1, V.2.2.2)]) C 0 2 rfl rfl i2 dX2_keepFree_18 rfl ?_
    refine g_aload_n C dX2_keepFree_19 rfl 0 rfl ?_
    refine g_dup C dX2_keepFree_20 rfl ?_
    refine g_get (Cl := RX2) (T := TX2) (N := 4) C mi_X2 0 rfl (List.mem_of_getElem? (i := 0) rfl) rfl 3 (by decide) mt_48 rfl rfl dX2_keepFree_21 ?_
    refine g_iconst (v := (1 : Int32)) C dX2_keepFree_24 (by decide) ?_
    refine g_iadd C dX2_keepFree_25 ?_
    refine g_put (Cl := RX2) (T := TX2) (N := 4) (Y2 := [rd E a (V.1, (upd V.2.1 (Int32.toNatClampNeg V.2.2.2) p0), V.2.2.1, (V.2.2.2 + (1 : Int32)))]) C mi_X2 tyX2_ok nmX2 0 0 rfl rfl rfl 3 (by decide) mt_48 rfl rfl rfl rfl rfl (Nat.le_of_ble_eq_true rfl) dX2_keepFree_26 rfl ?_
    refine g_sub (lv2 := []) [] rfl ?_
    exact h29 (V.1, (upd V.2.1 (Int32.toNatClampNeg V.2.2.2) p0), V.2.2.1, (V.2.2.2 + (1 : Int32))) hf
def f_X2_takeFree (V : Rd) : Option (Int32 × Rd) := (if V.2.2.2 = 0 then some ((0 : Int32), V) else (ix (V.2.2.2 - (1 : Int32)) 60 (some ((V.2.1 (Int32.toNatClampNeg (V.2.2.2 - (1 : Int32)))), (V.1, V.2.1, V.2.2.1, (V.2.2.2 - (1 : Int32)))))))
abbrev rm_X2_takeFree : Room := { frames := 0, cells := 0, slots := 0, locals := 0 }
set_option maxRecDepth 100000 in
theorem k_X2_takeFree : CF yX2_takeFree cX2_takeFree 1 (some .int) 0 := ⟨mt_170, mp_5, mt_3, mt_171, ⟨rfl, by decide +kernel, by decide +kernel, by decide +kernel⟩⟩
set_option maxHeartbeats 4000000 in
set_option maxRecDepth 100000 in
theorem c_X2_takeFree {E : Ev} {a : Nat → Nat} {V : Rd} {o : Int32 × Rd} (hf : f_X2_takeFree V = some o) : ∀ l, MG l yX2_takeFree cX2_takeFree 1 (some .int) rm_X2_takeFree E [.ref (a 0)] [rd E a V] (fun v Y => v = some (.int o.1) ∧ Y = [rd E a o.2]) := by
  refine MG.mk (own := RX2) (lv0 := [(0, .ref (a 0))]) (by decide) rfl (Nat.le_of_ble_eq_true rfl) rfl (fun X C K I => ?_)
  unfold f_X2_takeFree at hf
  refine g_aload_n C dX2_takeFree_0 rfl 0 rfl ?_
  refine g_get (Cl := RX2) (T := TX2) (N := 4) C mi_X2 0 rfl (List.mem_of_getElem? (i := 0) rfl) rfl 3 (by decide) mt_48 rfl rfl dX2_takeFree_1 ?_
  refine g_if_ne (tgt := 9) C dX2_takeFree_4 (by decide) (fun c1 => ?_) (fun c1 => ?_)
  · have hf := (f_if hf).2 c1
    refine g_aload_n C dX2_takeFree_9 rfl 0 rfl ?_
    refine g_dup C dX2_takeFree_10 rfl ?_
    refine g_get (Cl := RX2) (T := TX2) (N := 4) C mi_X2 0 rfl (List.mem_of_getElem? (i := 0) rfl) rfl 3 (by decide) mt_48 rfl rfl dX2_takeFree_11 ?_
    refine g_iconst (v := (1 : Int32)) C dX2_takeFree_14 (by decide) ?_
    refine g_isub C dX2_takeFree_15 ?_
    refine g_put (Cl := RX2) (T := TX2) (N := 4) (Y2 := [rd E a (V.1, V.2.1, V.2.2.1, (V.2.2.2 - (1 : Int32)))]) C mi_X2 tyX2_ok nmX2 0 0 rfl rfl rfl 3 (by decide) mt_48 rfl rfl rfl rfl rfl (Nat.le_of_ble_eq_true rfl) dX2_takeFree_16 rfl ?_
    refine g_aload_n C dX2_takeFree_19 rfl 0 rfl ?_
    refine g_get (Cl := RX2) (T := TX2) (N := 4) C mi_X2 0 rfl (List.mem_of_getElem? (i := 0) rfl) rfl 1 (by decide) mt_46 rfl rfl dX2_takeFree_20 ?_
    refine g_aload_n C dX2_takeFree_23 rfl 0 rfl ?_
    refine g_get (Cl := RX2) (T := TX2) (N := 4) C mi_X2 0 rfl (List.mem_of_getElem? (i := 0) rfl) rfl 3 (by decide) mt_48 rfl rfl dX2_takeFree_24 ?_
    obtain ⟨i2, hf⟩ := ix_s hf
    refine g_iald C 0 rfl (List.mem_of_getElem? (i := 2) rfl) i2 dX2_takeFree_27 ?_
    obtain rfl := Option.some.inj hf
    exact g_iret C K dX2_takeFree_28 (Nat.le_of_ble_eq_true rfl) (Nat.le_of_ble_eq_true rfl) ⟨rfl, rfl⟩
  · have hf := (f_if hf).1 c1
    refine g_iconst (v := (0 : Int32)) C dX2_takeFree_7 (by decide) ?_
    obtain rfl := Option.some.inj hf
    exact g_iret C K dX2_takeFree_8 (Nat.le_of_ble_eq_true rfl) (Nat.le_of_ble_eq_true rfl) ⟨rfl, rfl⟩
def b_X2_joinFree_19 (V : Rd) (Vx : Ru) (p0 : Int32) (s : Rd × Int32 × Int32) : Option (Rd × Ru) := ((f_X3_addJoint Vx p0 s.2.2 s.2.1).bind fun o1 => ((f_X2_keepFree s.1 o1.1).bind fun o3 => some (o3, o1.2)))
def f_X2_joinFree (V : Rd) (Vx : Ru) (p0 : Int32) : Option (Rd × Ru) := ((f_X2_takeFree V).bind fun o5 => (if p0 = (33 : Int32) then b_X2_joinFree_19 V Vx p0 (o5.2, o5.1, o5.1) else ((f_X2_takeFree o5.2).bind fun o8 => b_X2_joinFree_19 V Vx p0 (o8.2, o5.1, o8.1))))
abbrev rm_X2_joinFree : Room := { frames := 2, cells := 0, slots := 0, locals := 48 }
set_option maxRecDepth 100000 in
theorem k_X2_joinFree : CF yX2_joinFree cX2_joinFree 5 (Option.none : Option FieldType) 2 := ⟨mt_166, mp_4, mt_3, mt_167, ⟨rfl, by decide +kernel, by decide +kernel, by decide +kernel⟩⟩
set_option maxHeartbeats 4000000 in
set_option maxRecDepth 100000 in
theorem c_X2_joinFree {E : Ev} {a : Nat → Nat} {V : Rd} {ax : Nat → Nat} {Vx : Ru} {p0 : Int32} {o : Rd × Ru} (hf : f_X2_joinFree V Vx p0 = some o) : ∀ l, MG l yX2_joinFree cX2_joinFree 5 (Option.none : Option FieldType) rm_X2_joinFree E [.ref (a 0), .int p0, .ref (ax 0)] [rd E a V, ru E (ax 0) ax Vx] (fun v Y => v = none ∧ Y = [rd E a o.1, ru E (ax 0) ax o.2]) := by
  refine MG.mk (own := RX2) (lv0 := [(0, .ref (a 0)), (1, .int p0), (2, .ref (ax 0))]) (by decide) rfl (Nat.le_of_ble_eq_true rfl) rfl (fun X C K I => ?_)
  have h19 : ∀ s : Rd × Int32 × Int32, b_X2_joinFree_19 V Vx p0 s = some o → G E X 5 [rd E a s.1, ru E (ax 0) ax Vx] 0 0 [(0, .ref (a 0)), (1, .int p0), (2, .ref (ax 0)), (3, .int s.2.1)] [.int s.2.2] 19 := by
    intro s hf
    unfold b_X2_joinFree_19 at hf
    refine g_istore (lv2 := [(4, .int s.2.2), (0, .ref (a 0)), (1, .int p0), (2, .ref (ax 0)), (3, .int s.2.1)]) C dX2_joinFree_19 (by decide) rfl ?_
    refine g_aload_n C dX2_joinFree_21 rfl 1 rfl ?_
    refine g_aload_n C dX2_joinFree_22 rfl 3 rfl ?_
    refine g_iload_n C dX2_joinFree_23 rfl 2 rfl ?_
    refine g_iload C dX2_joinFree_24 0 rfl ?_
    refine g_iload_n C dX2_joinFree_26 rfl 4 rfl ?_
    obtain ⟨o1, hq2, hf⟩ := bind_s hf
    refine g_callV (As := [.int p0, .int s.2.2, .int s.2.1]) (rest := [.ref (a 0)]) C k_X3_addJoint (fun l => c_X3_addJoint (E := E) (a := ax) (V := Vx) hq2 l) mt_172 [1] rfl (by decide) ⟨_, _, _, _, List.mem_flatten.mpr ⟨_, List.mem_of_getElem? (i := 1) rfl, List.mem_of_getElem? (i := 0) rfl⟩, rfl⟩ rfl (Nat.le_of_ble_eq_true rfl) ⟨Nat.le_of_ble_eq_true rfl, Nat.le_of_ble_eq_true rfl, Nat.le_of_ble_eq_true rfl, Nat.le_of_ble_eq_true rfl⟩ dX2_joinFree_27 ?_
    rintro _ _ ⟨rfl, rfl⟩
    show G E X 5 [rd E a s.1, ru E (ax 0) ax o1.2] 0 0 [(4, .int s.2.2), (0, .ref (a 0)), (1, .int p0), (2, .ref (ax 0)), (3, .int s.2.1)] [.int o1.1, .ref (a 0)] 30
    obtain ⟨o3, hq4, hf⟩ := bind_s hf
    refine g_callV (As := [.int o1.1]) (rest := []) C k_X2_keepFree (fun l => c_X2_keepFree (E := E) (a := a) (V := s.1) hq4 l) mt_187 [0] rfl (by decide) ⟨_, _, _, _, List.mem_flatten.mpr ⟨_, List.mem_of_getElem? (i := 0) rfl, List.mem_of_getElem? (i := 0) rfl⟩, rfl⟩ rfl (Nat.le_of_ble_eq_true rfl) ⟨Nat.le_of_ble_eq_true rfl, Nat.le_of_ble_eq_true rfl, Nat.le_of_ble_eq_true rfl, Nat.le_of_ble_eq_true rfl⟩ dX2_joinFree_30 ?_
    rintro _ _ ⟨rfl, rfl⟩
    show G E X 5 [rd E a o3, ru E (ax 0) ax o1.2] 0 0 [(4, .int s.2.2), (0, .ref (a 0)), (1, .int p0), (2, .ref (ax 0)), (3, .int s.2.1)] [] 33
    obtain rfl := Option.some.inj hf
    exact g_ret C K dX2_joinFree_33 (Nat.le_of_ble_eq_true rfl) (Nat.le_of_ble_eq_true rfl) ⟨rfl, rfl⟩
  unfold f_X2_joinFree at hf
  refine g_aload_n C dX2_joinFree_0 rfl 0 rfl ?_
  obtain ⟨o5, hq6, hf⟩ := bind_s hf
  refine g_callV (As := []) (rest := []) C k_X2_takeFree (fun l => c_X2_takeFree (E := E) (a := a) (V := V) hq6 l) mt_168 [0] rfl (by decide) ⟨_, _, _, _, List.mem_flatten.mpr ⟨_, List.mem_of_getElem? (i := 0) rfl, List.mem_of_getElem? (i := 0) rfl⟩, rfl⟩ rfl (Nat.le_of_ble_eq_true rfl) ⟨Nat.le_of_ble_eq_true rfl, Nat.le_of_ble_eq_true rfl, Nat.le_of_ble_eq_true rfl, Nat.le_of_ble_eq_true rfl⟩ dX2_joinFree_1 ?_
  rintro _ _ ⟨rfl, rfl⟩
  show G E X 5 [rd E a o5.2, ru E (ax 0) ax Vx] 0 0 [(0, .ref (a 0)), (1, .int p0), (2, .ref (ax 0))] [.int o5.1] 4
  refine g_istore_n (lv2 := [(3, .int o5.1), (0, .ref (a 0)), (1, .int p0), (2, .ref (ax 0))]) C dX2_joinFree_4 rfl (by decide) rfl ?_
  refine g_iload_n C dX2_joinFree_5 rfl 2 rfl ?_
  refine g_bipush (v := (33 : Int32)) C dX2_joinFree_6 (by decide) ?_
  refine g_icmp_ne (tgt := 15) C dX2_joinFree_8 (by decide) (fun c7 => ?_) (fun c7 => ?_)
  · have hf := (f_if hf).2 c7
    refine g_aload_n C dX2_joinFree_15 rfl 1 rfl ?_
    obtain ⟨o8, hq9, hf⟩ := bind_s hf
    refine g_callV (As := []) (rest := []) C k_X2_takeFree (fun l => c_X2_takeFree (E := E) (a := a) (V := o5.2) hq9 l) mt_168 [0] rfl (by decide) ⟨_, _, _, _, List.mem_flatten.mpr ⟨_, List.mem_of_getElem? (i := 0) rfl, List.mem_of_getElem? (i := 0) rfl⟩, rfl⟩ rfl (Nat.le_of_ble_eq_true rfl) ⟨Nat.le_of_ble_eq_true rfl, Nat.le_of_ble_eq_true rfl, Nat.le_of_ble_eq_true rfl, Nat.le_of_ble_eq_true rfl⟩ dX2_joinFree_16 ?_
    rintro _ _ ⟨rfl, rfl⟩
    show G E X 5 [rd E a o8.2, ru E (ax 0) ax Vx] 0 0 [(3, .int o5.1), (0, .ref (a 0)), (1, .int p0), (2, .ref (ax 0))] [.int o8.1] 19
    refine g_sub (lv2 := [(0, .ref (a 0)), (1, .int p0), (2, .ref (ax 0)), (3, .int o5.1)]) [1, 2, 3, 0] rfl ?_
    exact h19 (o8.2, o5.1, o8.1) hf
  · have hf := (f_if hf).1 c7
    refine g_iload_n C dX2_joinFree_11 rfl 0 rfl ?_
    refine g_goto (tgt := 19) C dX2_joinFree_12 (by decide) ?_
    refine g_sub (lv2 := [(0, .ref (a 0)), (1, .int p0), (2, .ref (ax 0)), (3, .int o5.1)]) [1, 2, 3, 0] rfl ?_
    exact h19 (o5.2, o5.1, o5.1) hf
def b_X2_joinWaiting_55 (N : Nat) (V : Rd) (Vx : Ru) (p0 : Int32) (s : Rd × Ru) : Option (Rd × Ru) := some (s.1, s.2)
def b_X2_joinWaiting_0 (N : Nat) (V : Rd) (Vx : Ru) (p0 : Int32) (K0 : (Rd × Ru) → Option (Rd × Ru)) (s : Rd × Ru) : Option (Rd × Ru) := (if s.1.2.2.1 ≤ 0 then b_X2_joinWaiting_55 N V Vx p0 (s.1, s.2) else (ix (s.1.2.2.1 - (1 : Int32)) 60 ((f_X2_strength s.1 (s.1.1 (Int32.toNatClampNeg (s.1.2.2.1 - (1 : Int32))))).bind fun o3 => (if o3 < p0 then b_X2_joinWaiting_55 N V Vx p0 (s.1, s.2) else (ix (s.1.2.2.1 - (1 : Int32)) 60 ((f_X2_joinFree s.1 s.2 (s.1.1 (Int32.toNatClampNeg (s.1.2.2.1 - (1 : Int32))))).bind fun o7 => K0 ((o7.1.1, o7.1.2.1, (o7.1.2.2.1 - (1 : Int32)), o7.1.2.2.2), o7.2)))))))
def f_X2_joinWaiting (N : Nat) (V : Rd) (Vx : Ru) (p0 : Int32) : Option (Rd × Ru) := lp (b_X2_joinWaiting_0 N V Vx p0) N (V, Vx)
abbrev rm_X2_joinWaiting : Room := { frames := 3, cells := 0, slots := 0, locals := 72 }
set_option maxRecDepth 100000 in
theorem k_X2_joinWaiting : CF yX2_joinWaiting cX2_joinWaiting 3 (Option.none : Option FieldType) 2 := ⟨mt_158, mp_2, mt_3, mt_159, ⟨rfl, by decide +kernel, by decide +kernel, by decide +kernel⟩⟩
set_option maxHeartbeats 4000000 in
set_option maxRecDepth 100000 in
theorem c_X2_joinWaiting {E : Ev} {a : Nat → Nat} {V : Rd} {ax : Nat → Nat} {Vx : Ru} {p0 : Int32} {N : Nat} {o : Rd × Ru} (hf : f_X2_joinWaiting N V Vx p0 = some o) : ∀ l, MG l yX2_joinWaiting cX2_joinWaiting 3 (Option.none : Option FieldType) rm_X2_joinWaiting E [.ref (a 0), .int p0, .ref (ax 0)] [rd E a V, ru E (ax 0) ax Vx] (fun v Y => v = none ∧ Y = [rd E a o.1, ru E (ax 0) ax o.2]) := by
  refine MG.mk (own := RX2) (lv0 := [(0, .ref (a 0)), (1, .int p0), (2, .ref (ax 0))]) (by decide) rfl (Nat.le_of_ble_eq_true rfl) rfl (fun X C K I => ?_)
  have h55 : ∀ s : Rd × Ru, b_X2_joinWaiting_55 N V Vx p0 s = some o → G E X 3 [rd E a s.1, ru E (ax 0) ax s.2] 0 0 [] [] 55 := by
    intro s hf
    unfold b_X2_joinWaiting_55 at hf
    obtain rfl := Option.some.inj hf
    exact g_ret C K dX2_joinWaiting_55 (Nat.le_of_ble_eq_true rfl) (Nat.le_of_ble_eq_true rfl) ⟨rfl, rfl⟩
  have h0 : ∀ (n : Nat) (s : Rd × Ru), lp (b_X2_joinWaiting_0 N V Vx p0) n s = some o → G E X 3 [rd E a s.1, ru E (ax 0) ax s.2] 0 0 [(0, .ref (a 0)), (1, .int p0), (2, .ref (ax 0))] [] 0 := by
    refine lp_ind ?_
    intro K0 hK0 s hf
    unfold b_X2_joinWaiting_0 at hf
    refine g_aload_n C dX2_joinWaiting_0 rfl 0 rfl ?_
    refine g_get (Cl := RX2) (T := TX2) (N := 4) C mi_X2 0 rfl (List.mem_of_getElem? (i := 0) rfl) rfl 2 (by decide) mt_47 rfl rfl dX2_joinWaiting_1 ?_
    refine g_if_le (tgt := 55) C dX2_joinWaiting_4 (by decide) (fun c1 => ?_) (fun c1 => ?_)
    · have hf := (f_if hf).1 c1
      refine g_sub (lv2 := []) [] rfl ?_
      exact h55 (s.1, s.2) hf
    · have hf := (f_if hf).2 c1
      refine g_aload_n C dX2_joinWaiting_7 rfl 0 rfl ?_
      refine g_aload_n C dX2_joinWaiting_8 rfl 0 rfl ?_
      refine g_get (Cl := RX2) (T := TX2) (N := 4) C mi_X2 0 rfl (List.mem_of_getElem? (i := 0) rfl) rfl 0 (by decide) mt_45 rfl rfl dX2_joinWaiting_9 ?_
      refine g_aload_n C dX2_joinWaiting_12 rfl 0 rfl ?_
      refine g_get (Cl := RX2) (T := TX2) (N := 4) C mi_X2 0 rfl (List.mem_of_getElem? (i := 0) rfl) rfl 2 (by decide) mt_47 rfl rfl dX2_joinWaiting_13 ?_
      refine g_iconst (v := (1 : Int32)) C dX2_joinWaiting_16 (by decide) ?_
      refine g_isub C dX2_joinWaiting_17 ?_
      obtain ⟨i2, hf⟩ := ix_s hf
      refine g_cald C 0 rfl (List.mem_of_getElem? (i := 1) rfl) i2 dX2_joinWaiting_18 ?_
      obtain ⟨o3, hq4, hf⟩ := bind_s hf
      refine g_callV (As := [.int (s.1.1 (Int32.toNatClampNeg (s.1.2.2.1 - (1 : Int32))))]) (rest := []) C k_X2_strength (fun l => c_X2_strength (E := E) (a := a) (V := s.1) hq4 l) mt_160 [0] rfl (by decide) ⟨_, _, _, _, List.mem_flatten.mpr ⟨_, List.mem_of_getElem? (i := 0) rfl, List.mem_of_getElem? (i := 0) rfl⟩, rfl⟩ rfl (Nat.le_of_ble_eq_true rfl) ⟨Nat.le_of_ble_eq_true rfl, Nat.le_of_ble_eq_true rfl, Nat.le_of_ble_eq_true rfl, Nat.le_of_ble_eq_true rfl⟩ dX2_joinWaiting_19 ?_
      rintro _ _ ⟨rfl, rfl⟩
      show G E X 3 [rd E a s.1, ru E (ax 0) ax s.2] 0 0 [(0, .ref (a 0)), (1, .int p0), (2, .ref (ax 0))] [.int o3] 22
      refine g_iload_n C dX2_joinWaiting_22 rfl 1 rfl ?_
      refine g_icmp_lt (tgt := 55) C dX2_joinWaiting_23 (by decide) (fun c5 => ?_) (fun c5 => ?_)
      · have hf := (f_if hf).1 c5
        refine g_sub (lv2 := []) [] rfl ?_
        exact h55 (s.1, s.2) hf
      · have hf := (f_if hf).2 c5
        refine g_aload_n C dX2_joinWaiting_26 rfl 0 rfl ?_
        refine g_aload_n C dX2_joinWaiting_27 rfl 0 rfl ?_
        refine g_get (Cl := RX2) (T := TX2) (N := 4) C mi_X2 0 rfl (List.mem_of_getElem? (i := 0) rfl) rfl 0 (by decide) mt_45 rfl rfl dX2_joinWaiting_28 ?_
        refine g_aload_n C dX2_joinWaiting_31 rfl 0 rfl ?_
        refine g_get (Cl := RX2) (T := TX2) (N := 4) C mi_X2 0 rfl (List.mem_of_getElem? (i := 0) rfl) rfl 2 (by decide) mt_47 rfl rfl dX2_joinWaiting_32 ?_
        refine g_iconst (v := (1 : Int32)) C dX2_joinWaiting_35 (by decide) ?_
        refine g_isub C dX2_joinWaiting_36 ?_
        obtain ⟨i6, hf⟩ := ix_s hf
        refine g_cald C 0 rfl (List.mem_of_getElem? (i := 1) rfl) i6 dX2_joinWaiting_37 ?_
        refine g_aload_n C dX2_joinWaiting_38 rfl 2 rfl ?_
        obtain ⟨o7, hq8, hf⟩ := bind_s hf
        refine g_callV (As := [.int (s.1.1 (Int32.toNatClampNeg (s.1.2.2.1 - (1 : Int32)))), .ref (ax 0)]) (rest := []) C k_X2_joinFree (fun l => c_X2_joinFree (E := E) (a := a) (V := s.1) (ax := ax) (Vx := s.2) hq8 l) mt_164 [0, 1] rfl (by decide) ⟨_, _, _, _, List.mem_flatten.mpr ⟨_, List.mem_of_getElem? (i := 0) rfl, List.mem_of_getElem? (i := 0) rfl⟩, rfl⟩ rfl (Nat.le_of_ble_eq_true rfl) ⟨Nat.le_of_ble_eq_true rfl, Nat.le_of_ble_eq_true rfl, Nat.le_of_ble_eq_true rfl, Nat.le_of_ble_eq_true rfl⟩ dX2_joinWaiting_39 ?_
        rintro _ _ ⟨rfl, rfl⟩
        show G E X 3 [rd E a o7.1, ru E (ax 0) ax o7.2] 0 0 [(0, .ref (a 0)), (1, .int p0), (2, .ref (ax 0))] [] 42
        refine g_aload_n C dX2_joinWaiting_42 rfl 0 rfl ?_
        refine g_dup C dX2_joinWaiting_43 rfl ?_
        refine g_get (Cl := RX2) (T := TX2) (N := 4) C mi_X2 0 rfl (List.mem_of_getElem? (i := 0) rfl) rfl 2 (by decide) mt_47 rfl rfl dX2_joinWaiting_44 ?_
        refine g_iconst (v := (1 : Int32)) C dX2_joinWaiting_47 (by decide) ?_
        refine g_isub C dX2_joinWaiting_48 ?_
        refine g_put (Cl := RX2) (T := TX2) (N := 4) (Y2 := [rd E a (o7.1.1, o7.1.2.1, (o7.1.2.2.1 - (1 : Int32)), o7.1.2.2.2), ru E (ax 0) ax o7.2]) C mi_X2 tyX2_ok nmX2 0 0 rfl rfl rfl 2 (by decide) mt_47 rfl rfl rfl rfl rfl (Nat.le_of_ble_eq_true rfl) dX2_joinWaiting_49 rfl ?_
        refine g_goto (tgt := 0) C dX2_joinWaiting_52 (by decide) ?_
        exact hK0 ((o7.1.1, o7.1.2.1, (o7.1.2.2.1 - (1 : Int32)), o7.1.2.2.2), o7.2) hf
  unfold f_X2_joinWaiting at hf
  exact h0 N (V, Vx) hf
def b_X2_take_110 (N : Nat) (V : Rd) (Vx : Ru) (p0 : Int32) (s : Rd × Ru) : Option (Rd × Ru) := some (s.1, s.2)
def f_X2_take (N : Nat) (V : Rd) (Vx : Ru) (p0 : Int32) : Option (Rd × Ru) := (if p0 = (33 : Int32) then ((f_X2_keepWaiting V p0).bind fun o2 => b_X2_take_110 N V Vx p0 (o2, Vx)) else (if p0 = (38 : Int32) then ((f_X2_strength V p0).bind fun o5 => ((f_X2_joinWaiting N V Vx o5).bind fun o7 => ((f_X2_keepWaiting o7.1 p0).bind fun o9 => b_X2_take_110 N V Vx p0 (o9, o7.2)))) else (if p0 = (40 : Int32) then ((f_X2_keepWaiting V p0).bind fun o12 => b_X2_take_110 N V Vx p0 (o12, Vx)) else (if p0 = (41 : Int32) then ((f_X2_joinWaiting N V Vx (1 : Int32)).bind fun o15 => b_X2_take_110 N V Vx p0 ((o15.1.1, o15.1.2.1, (if (0 : Int32) < (o15.1.2.2.1 - (1 : Int32)) then (o15.1.2.2.1 - (1 : Int32)) else (0 : Int32)), o15.1.2.2.2), o15.2)) else (if p0 = (124 : Int32) then ((f_X2_strength V p0).bind fun o18 => ((f_X2_joinWaiting N V Vx o18).bind fun o20 => ((f_X2_keepWaiting o20.1 p0).bind fun o22 => b_X2_take_110 N V Vx p0 (o22, o20.2)))) else ((f_X3_addLetter Vx p0).bind fun o24 => ((f_X2_keepFree V o24.1).bind fun o26 => b_X2_take_110 N V Vx p0 (o26, o24.2))))))))
abbrev rm_X2_take : Room := { frames := 4, cells := 0, slots := 0, locals := 94 }
set_option maxRecDepth 100000 in
theorem k_X2_take : CF yX2_take cX2_take 3 (Option.none : Option FieldType) 2 := ⟨mt_150, mp_0, mt_3, mt_151, ⟨rfl, by decide +kernel, by decide +kernel, by decide +kernel⟩⟩
set_option maxHeartbeats 4000000 in
set_option maxRecDepth 100000 in
theorem c_X2_take {E : Ev} {a : Nat → Nat} {V : Rd} {ax : Nat → Nat} {Vx : Ru} {p0 : Int32} {N : Nat} {o : Rd × Ru} (hf : f_X2_take N V Vx p0 = some o) : ∀ l, MG l yX2_take cX2_take 3 (Option.none : Option FieldType) rm_X2_take E [.ref (a 0), .int p0, .ref (ax 0)] [rd E a V, ru E (ax 0) ax Vx] (fun v Y => v = none ∧ Y = [rd E a o.1, ru E (ax 0) ax o.2]) := by
  refine MG.mk (own := RX2) (lv0 := [(0, .ref (a 0)), (1, .int p0), (2, .ref (ax 0))]) (by decide) rfl (Nat.le_of_ble_eq_true rfl) rfl (fun X C K I => ?_)
  have h110 : ∀ s : Rd × Ru, b_X2_take_110 N V Vx p0 s = some o → G E X 3 [rd E a s.1, ru E (ax 0) ax s.2] 0 0 [] [] 110 := by
    intro s hf
    unfold b_X2_take_110 at hf
    obtain rfl := Option.some.inj hf
    exact g_ret C K dX2_take_110 (Nat.le_of_ble_eq_true rfl) (Nat.le_of_ble_eq_true rfl) ⟨rfl, rfl⟩
  unfold f_X2_take at hf
  refine g_iload_n C dX2_take_0 rfl 1 rfl ?_
  by_cases c1 : p0 = (33 : Int32)
  · have hf := (f_if hf).1 c1
    refine g_lookup (tgt := 52) C dX2_take_1 (by decide) (by rw [c1] <;> rfl) (by decide) ?_
    refine g_aload_n C dX2_take_52 rfl 0 rfl ?_
    refine g_iload_n C dX2_take_53 rfl 1 rfl ?_
    obtain ⟨o2, hq3, hf⟩ := bind_s hf
    refine g_callV (As := [.int p0]) (rest := []) C k_X2_keepWaiting (fun l => c_X2_keepWaiting (E := E) (a := a) (V := V) hq3 l) mt_152 [0] rfl (by decide) ⟨_, _, _, _, List.mem_flatten.mpr ⟨_, List.mem_of_getElem? (i := 0) rfl, List.mem_of_getElem? (i := 0) rfl⟩, rfl⟩ rfl (Nat.le_of_ble_eq_true rfl) ⟨Nat.le_of_ble_eq_true rfl, Nat.le_of_ble_eq_true rfl, Nat.le_of_ble_eq_true rfl, Nat.le_of_ble_eq_true rfl⟩ dX2_take_54 ?_
    rintro _ _ ⟨rfl, rfl⟩
    show G E X 3 [rd E a o2, ru E (ax 0) ax Vx] 0 0 [(0, .ref (a 0)), (1, .int p0), (2, .ref (ax 0))] [] 57
    refine g_goto (tgt := 110) C dX2_take_57 (by decide) ?_
    refine g_sub (lv2 := []) [] rfl ?_
    exact h110 (o2, Vx) hf
  have hf := (f_if hf).2 c1
  by_cases c4 : p0 = (38 : Int32)
  · have hf := (f_if hf).1 c4
    refine g_lookup (tgt := 83) C dX2_take_1 (by decide) (by rw [c4] <;> rfl) (by decide) ?_
    refine g_aload_n C dX2_take_83 rfl 0 rfl ?_
    refine g_aload_n C dX2_take_84 rfl 0 rfl ?_
    refine g_iload_n C dX2_take_85 rfl 1 rfl ?_
    obtain ⟨o5, hq6, hf⟩ := bind_s hf
    refine g_callV (As := [.int p0]) (rest := [.ref (a 0)]) C k_X2_strength (fun l => c_X2_strength (E := E) (a := a) (V := V) hq6 l) mt_160 [0] rfl (by decide) ⟨_, _, _, _, List.mem_flatten.mpr ⟨_, List.mem_of_getElem? (i := 0) rfl, List.mem_of_getElem? (i := 0) rfl⟩, rfl⟩ rfl (Nat.le_of_ble_eq_true rfl) ⟨Nat.le_of_ble_eq_true rfl, Nat.le_of_ble_eq_true rfl, Nat.le_of_ble_eq_true rfl, Nat.le_of_ble_eq_true rfl⟩ dX2_take_86 ?_
    rintro _ _ ⟨rfl, rfl⟩
    show G E X 3 [rd E a V, ru E (ax 0) ax Vx] 0 0 [(0, .ref (a 0)), (1, .int p0), (2, .ref (ax 0))] [.int o5, .ref (a 0)] 89
    refine g_aload_n C dX2_take_89 rfl 2 rfl ?_
    obtain ⟨o7, hq8, hf⟩ := bind_s hf
    refine g_callV (As := [.int o5, .ref (ax 0)]) (rest := []) C k_X2_joinWaiting (fun l => c_X2_joinWaiting (E := E) (a := a) (V := V) (ax := ax) (Vx := Vx) hq8 l) mt_156 [0, 1] rfl (by decide) ⟨_, _, _, _, List.mem_flatten.mpr ⟨_, List.mem_of_getElem? (i := 0) rfl, List.mem_of_getElem? (i := 0) rfl⟩, rfl⟩ rfl (Nat.le_of_ble_eq_true rfl) ⟨Nat.le_of_ble_eq_true rfl, Nat.le_of_ble_eq_true rfl, Nat.le_of_ble_eq_true rfl, Nat.le_of_ble_eq_true rfl⟩ dX2_take_90 ?_
    rintro _ _ ⟨rfl, rfl⟩
    show G E X 3 [rd E a o7.1, ru E (ax 0) ax o7.2] 0 0 [(0, .ref (a 0)), (1, .int p0), (2, .ref (ax 0))] [] 93
    refine g_aload_n C dX2_take_93 rfl 0 rfl ?_
    refine g_iload_n C dX2_take_94 rfl 1 rfl ?_
    obtain ⟨o9, hq10, hf⟩ := bind_s hf
    refine g_callV (As := [.int p0]) (rest := []) C k_X2_keepWaiting (fun l => c_X2_keepWaiting (E := E) (a := a) (V := o7.1) hq10 l) mt_152 [0] rfl (by decide) ⟨_, _, _, _, List.mem_flatten.mpr ⟨_, List.mem_of_getElem? (i := 0) rfl, List.mem_of_getElem? (i := 0) rfl⟩, rfl⟩ rfl (Nat.le_of_ble_eq_true rfl) ⟨Nat.le_of_ble_eq_true rfl, Nat.le_of_ble_eq_true rfl, Nat.le_of_ble_eq_true rfl, Nat.le_of_ble_eq_true rfl⟩ dX2_take_95 ?_
    rintro _ _ ⟨rfl, rfl⟩
    show G E X 3 [rd E a o9, ru E (ax 0) ax o7.2] 0 0 [(0, .ref (a 0)), (1, .int p0), (2, .ref (ax 0))] [] 98
    refine g_goto (tgt := 110) C dX2_take_98 (by decide) ?_
    refine g_sub (lv2 := []) [] rfl ?_
    exact h110 (o9, o7.2) hf
  have hf := (f_if hf).2 c4
  by_cases c11 : p0 = (40 : Int32)
  · have hf := (f_if hf).1 c11
    refine g_lookup (tgt := 52) C dX2_take_1 (by decide) (by rw [c11] <;> rfl) (by decide) ?_
    refine g_aload_n C dX2_take_52 rfl 0 rfl ?_
    refine g_iload_n C dX2_take_53 rfl 1 rfl ?_
    obtain ⟨o12, hq13, hf⟩ := bind_s hf
    refine g_callV (As := [.int p0]) (rest := []) C k_X2_keepWaiting (fun l => c_X2_keepWaiting (E := E) (a := a) (V := V) hq13 l) mt_152 [0] rfl (by decide) ⟨_, _, _, _, List.mem_flatten.mpr ⟨_, List.mem_of_getElem? (i := 0) rfl, List.mem_of_getElem? (i := 0) rfl⟩, rfl⟩ rfl (Nat.le_of_ble_eq_true rfl) ⟨Nat.le_of_ble_eq_true rfl, Nat.le_of_ble_eq_true rfl, Nat.le_of_ble_eq_true rfl, Nat.le_of_ble_eq_true rfl⟩ dX2_take_54 ?_
    rintro _ _ ⟨rfl, rfl⟩
    show G E X 3 [rd E a o12, ru E (ax 0) ax Vx] 0 0 [(0, .ref (a 0)), (1, .int p0), (2, .ref (ax 0))] [] 57
    refine g_goto (tgt := 110) C dX2_take_57 (by decide) ?_
    refine g_sub (lv2 := []) [] rfl ?_
    exact h110 (o12, Vx) hf
  have hf := (f_if hf).2 c11
  by_cases c14 : p0 = (41 : Int32)
  · have hf := (f_if hf).1 c14
    refine g_lookup (tgt := 60) C dX2_take_1 (by decide) (by rw [c14] <;> rfl) (by decide) ?_
    refine g_aload_n C dX2_take_60 rfl 0 rfl ?_
    refine g_iconst (v := (1 : Int32)) C dX2_take_61 (by decide) ?_
    refine g_aload_n C dX2_take_62 rfl 2 rfl ?_
    obtain ⟨o15, hq16, hf⟩ := bind_s hf
    refine g_callV (As := [.int (1 : Int32), .ref (ax 0)]) (rest := []) C k_X2_joinWaiting (fun l => c_X2_joinWaiting (E := E) (a := a) (V := V) (ax := ax) (Vx := Vx) hq16 l) mt_156 [0, 1] rfl (by decide) ⟨_, _, _, _, List.mem_flatten.mpr ⟨_, List.mem_of_getElem? (i := 0) rfl, List.mem_of_getElem? (i := 0) rfl⟩, rfl⟩ rfl (Nat.le_of_ble_eq_true rfl) ⟨Nat.le_of_ble_eq_true rfl, Nat.le_of_ble_eq_true rfl, Nat.le_of_ble_eq_true rfl, Nat.le_of_ble_eq_true rfl⟩ dX2_take_63 ?_
    rintro _ _ ⟨rfl, rfl⟩
    show G E X 3 [rd E a o15.1, ru E (ax 0) ax o15.2] 0 0 [(0, .ref (a 0)), (1, .int p0), (2, .ref (ax 0))] [] 66
    refine g_aload_n C dX2_take_66 rfl 0 rfl ?_
    refine g_iconst (v := (0 : Int32)) C dX2_take_67 (by decide) ?_
    refine g_aload_n C dX2_take_68 rfl 0 rfl ?_
    refine g_get (Cl := RX2) (T := TX2) (N := 4) C mi_X2 0 rfl (List.mem_of_getElem? (i := 0) rfl) rfl 2 (by decide) mt_47 rfl rfl dX2_take_69 ?_
    refine g_iconst (v := (1 : Int32)) C dX2_take_72 (by decide) ?_
    refine g_isub C dX2_take_73 ?_
    refine g_mmax C mt_191 mt_181 mt_9 mt_182 (Nat.le_of_ble_eq_true rfl) (Nat.le_of_ble_eq_true rfl) (Nat.le_of_ble_eq_true rfl) (Nat.le_of_ble_eq_true rfl) dX2_take_74 ?_
    refine g_put (Cl := RX2) (T := TX2) (N := 4) (Y2 := [rd E a (o15.1.1, o15.1.2.1, (if (0 : Int32) < (o15.1.2.2.1 - (1 : Int32)) then (o15.1.2.2.1 - (1 : Int32)) else (0 : Int32)), o15.1.2.2.2), ru E (ax 0) ax o15.2]) C mi_X2 tyX2_ok nmX2 0 0 rfl rfl rfl 2 (by decide) mt_47 rfl rfl rfl rfl rfl (Nat.le_of_ble_eq_true rfl) dX2_take_77 rfl ?_
    refine g_goto (tgt := 110) C dX2_take_80 (by decide) ?_
    refine g_sub (lv2 := []) [] rfl ?_
    exact h110 ((o15.1.1, o15.1.2.1, (if (0 : Int32) < (o15.1.2.2.1 - (1 : Int32)) then (o15.1.2.2.1 - (1 : Int32)) else (0 : Int32)), o15.1.2.2.2), o15.2) hf
  have hf := (f_if hf).2 c14
  by_cases c17 : p0 = (124 : Int32)
  · have hf := (f_if hf).1 c17
    refine g_lookup (tgt := 83) C dX2_take_1 (by decide) (by rw [c17] <;> rfl) (by decide) ?_
    refine g_aload_n C dX2_take_83 rfl 0 rfl ?_
    refine g_aload_n C dX2_take_84 rfl 0 rfl ?_
    refine g_iload_n C dX2_take_85 rfl 1 rfl ?_
    obtain ⟨o18, hq19, hf⟩ := bind_s hf
    refine g_callV (As := [.int p0]) (rest := [.ref (a 0)]) C k_X2_strength (fun l => c_X2_strength (E := E) (a := a) (V := V) hq19 l) mt_160 [0] rfl (by decide) ⟨_, _, _, _, List.mem_flatten.mpr ⟨_, List.mem_of_getElem? (i := 0) rfl, List.mem_of_getElem? (i := 0) rfl⟩, rfl⟩ rfl (Nat.le_of_ble_eq_true rfl) ⟨Nat.le_of_ble_eq_true rfl, Nat.le_of_ble_eq_true rfl, Nat.le_of_ble_eq_true rfl, Nat.le_of_ble_eq_true rfl⟩ dX2_take_86 ?_
    rintro _ _ ⟨rfl, rfl⟩
    show G E X 3 [rd E a V, ru E (ax 0) ax Vx] 0 0 [(0, .ref (a 0)), (1, .int p0), (2, .ref (ax 0))] [.int o18, .ref (a 0)] 89
    refine g_aload_n C dX2_take_89 rfl 2 rfl ?_
    obtain ⟨o20, hq21, hf⟩ := bind_s hf
    refine g_callV (As := [.int o18, .ref (ax 0)]) (rest := []) C k_X2_joinWaiting (fun l => c_X2_joinWaiting (E := E) (a := a) (V := V) (ax := ax) (Vx := Vx) hq21 l) mt_156 [0, 1] rfl (by decide) ⟨_, _, _, _, List.mem_flatten.mpr ⟨_, List.mem_of_getElem? (i := 0) rfl, List.mem_of_getElem? (i := 0) rfl⟩, rfl⟩ rfl (Nat.le_of_ble_eq_true rfl) ⟨Nat.le_of_ble_eq_true rfl, Nat.le_of_ble_eq_true rfl, Nat.le_of_ble_eq_true rfl, Nat.le_of_ble_eq_true rfl⟩ dX2_take_90 ?_
    rintro _ _ ⟨rfl, rfl⟩
    show G E X 3 [rd E a o20.1, ru E (ax 0) ax o20.2] 0 0 [(0, .ref (a 0)), (1, .int p0), (2, .ref (ax 0))] [] 93
    refine g_aload_n C dX2_take_93 rfl 0 rfl ?_
    refine g_iload_n C dX2_take_94 rfl 1 rfl ?_
    obtain ⟨o22, hq23, hf⟩ := bind_s hf
    refine g_callV (As := [.int p0]) (rest := []) C k_X2_keepWaiting (fun l => c_X2_keepWaiting (E := E) (a := a) (V := o20.1) hq23 l) mt_152 [0] rfl (by decide) ⟨_, _, _, _, List.mem_flatten.mpr ⟨_, List.mem_of_getElem? (i := 0) rfl, List.mem_of_getElem? (i := 0) rfl⟩, rfl⟩ rfl (Nat.le_of_ble_eq_true rfl) ⟨Nat.le_of_ble_eq_true rfl, Nat.le_of_ble_eq_true rfl, Nat.le_of_ble_eq_true rfl, Nat.le_of_ble_eq_true rfl⟩ dX2_take_95 ?_
    rintro _ _ ⟨rfl, rfl⟩
    show G E X 3 [rd E a o22, ru E (ax 0) ax o20.2] 0 0 [(0, .ref (a 0)), (1, .int p0), (2, .ref (ax 0))] [] 98
    refine g_goto (tgt := 110) C dX2_take_98 (by decide) ?_
    refine g_sub (lv2 := []) [] rfl ?_
    exact h110 (o22, o20.2) hf
  have hf := (f_if hf).2 c17
  refine g_lookup (tgt := 101) (off := 100) C dX2_take_1 (by decide) (by show Op.lookupswitch.offset [(33, 51), (38, 82), (40, 51), (41, 59), (124, 82)] _ _ = _; rw [lv_osw (a := 33) c1 rfl, lv_osw (a := 38) c4 rfl, lv_osw (a := 40) c11 rfl, lv_osw (a := 41) c14 rfl, lv_osw (a := 124) c17 rfl] <;> rfl) (by decide) ?_
  refine g_aload_n C dX2_take_101 rfl 0 rfl ?_
  refine g_aload_n C dX2_take_102 rfl 2 rfl ?_
  refine g_iload_n C dX2_take_103 rfl 1 rfl ?_
  obtain ⟨o24, hq25, hf⟩ := bind_s hf
  refine g_callV (As := [.int p0]) (rest := [.ref (a 0)]) C k_X3_addLetter (fun l => c_X3_addLetter (E := E) (a := ax) (V := Vx) hq25 l) mt_192 [1] rfl (by decide) ⟨_, _, _, _, List.mem_flatten.mpr ⟨_, List.mem_of_getElem? (i := 1) rfl, List.mem_of_getElem? (i := 0) rfl⟩, rfl⟩ rfl (Nat.le_of_ble_eq_true rfl) ⟨Nat.le_of_ble_eq_true rfl, Nat.le_of_ble_eq_true rfl, Nat.le_of_ble_eq_true rfl, Nat.le_of_ble_eq_true rfl⟩ dX2_take_104 ?_
  rintro _ _ ⟨rfl, rfl⟩
  show G E X 3 [rd E a V, ru E (ax 0) ax o24.2] 0 0 [(0, .ref (a 0)), (1, .int p0), (2, .ref (ax 0))] [.int o24.1, .ref (a 0)] 107
  obtain ⟨o26, hq27, hf⟩ := bind_s hf
  refine g_callV (As := [.int o24.1]) (rest := []) C k_X2_keepFree (fun l => c_X2_keepFree (E := E) (a := a) (V := V) hq27 l) mt_187 [0] rfl (by decide) ⟨_, _, _, _, List.mem_flatten.mpr ⟨_, List.mem_of_getElem? (i := 0) rfl, List.mem_of_getElem? (i := 0) rfl⟩, rfl⟩ rfl (Nat.le_of_ble_eq_true rfl) ⟨Nat.le_of_ble_eq_true rfl, Nat.le_of_ble_eq_true rfl, Nat.le_of_ble_eq_true rfl, Nat.le_of_ble_eq_true rfl⟩ dX2_take_107 ?_
  rintro _ _ ⟨rfl, rfl⟩
  show G E X 3 [rd E a o26, ru E (ax 0) ax o24.2] 0 0 [(0, .ref (a 0)), (1, .int p0), (2, .ref (ax 0))] [] 110
  refine g_sub (lv2 := []) [] rfl ?_
  exact h110 (o26, o24.2) hf
