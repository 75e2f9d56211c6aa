def b_X1_charactersIn_56 (N : Nat) (V : Pd) (p0 : Int64) (s : Int32) : Option (Int32) := some s
def b_X1_charactersIn_43 (N : Nat) (V : Pd) (p0 : Int64) (s : Unit) : Option (Int32) := some (0 : Int32)
def b_X1_charactersIn_5 (N : Nat) (V : Pd) (p0 : Int64) (K5 : (Int64 × Int32) → Option (Int32)) (s : Int64 × Int32) : Option (Int32) := (if (8 : Int32) ≤ s.2 then b_X1_charactersIn_56 N V p0 s.2 else (if (lg_cmp s.1 (0 : Int64)) = 0 then b_X1_charactersIn_56 N V p0 s.2 else (if (lg_cmp (s.1 &&& (255 : Int64)) (33 : Int64)) < 0 then b_X1_charactersIn_43 N V p0 () else (if (lg_cmp (s.1 &&& (255 : Int64)) (126 : Int64)) ≤ 0 then K5 ((Int64.toUInt64 s.1 >>> ((Int32.toInt64 (8 : Int32)).toUInt64 &&& Int64.toUInt64 63)).toInt64, (s.2 + (1 : Int32))) else b_X1_charactersIn_43 N V p0 ()))))
def f_X1_charactersIn (N : Nat) (V : Pd) (p0 : Int64) : Option (Int32) := lp (b_X1_charactersIn_5 N V p0) N (p0, (0 : Int32))
abbrev rm_X1_charactersIn : Room := { frames := 0, cells := 0, slots := 0, locals := 0 }
set_option maxRecDepth 100000 in
theorem k_X1_charactersIn : CF yX1_charactersIn cX1_charactersIn 8 (some .int) 1 := ⟨mt_544, mt_545, mt_2, mt_546, ⟨rfl, by decide +kernel, by decide +kernel, by decide +kernel⟩⟩
set_option maxHeartbeats 4000000 in
set_option maxRecDepth 100000 in
theorem c_X1_charactersIn {E : Ev} {a : Nat → Nat} {V : Pd} {p0 : Int64} {N : Nat} {o : Int32} (hf : f_X1_charactersIn N V p0 = some o) : ∀ l, MG l yX1_charactersIn cX1_charactersIn 8 (some .int) rm_X1_charactersIn E [.ref (a 0), .long p0] [pd E a V] (fun v Y => v = some (.int o) ∧ Y = [pd E a V]) := by
  refine MG.mk (own := RX1) (lv0 := [(0, .ref (a 0)), (1, .long p0)]) (by decide) rfl (Nat.le_of_ble_eq_true rfl) rfl (fun X C K I => ?_)
  have h56 : ∀ s : Int32, b_X1_charactersIn_56 N V p0 s = some o → G E X 8 [pd E a V] 0 0 [(5, .int s)] [] 56 := by
    intro s hf
    unfold b_X1_charactersIn_56 at hf
    refine g_iload C dX1_charactersIn_56 0 rfl ?_
    obtain rfl := Option.some.inj hf
    exact g_iret C K dX1_charactersIn_58 (Nat.le_of_ble_eq_true rfl) (Nat.le_of_ble_eq_true rfl) ⟨rfl, rfl⟩
  have h43 : ∀ s : Unit, b_X1_charactersIn_43 N V p0 s = some o → G E X 8 [pd E a V] 0 0 [] [] 43 := by
    intro s hf
    unfold b_X1_charactersIn_43 at hf
    refine g_iconst (v := (0 : Int32)) C dX1_charactersIn_43 (by decide) ?_
    obtain rfl := Option.some.inj hf
    exact g_iret C K dX1_charactersIn_44 (Nat.le_of_ble_eq_true rfl) (Nat.le_of_ble_eq_true rfl) ⟨rfl, rfl⟩
  have h5 : ∀ (n : Nat) (s : Int64 × Int32), lp (b_X1_charactersIn_5 N V p0) n s = some o → G E X 8 [pd E a V] 0 0 [(3, .long s.1), (5, .int s.2)] [] 5 := by
    refine lp_ind ?_
    intro K5 hK5 s hf
    unfold b_X1_charactersIn_5 at hf
    refine g_iload C dX1_charactersIn_5 1 rfl ?_
    refine g_bipush (v := (8 : Int32)) C dX1_charactersIn_7 (by decide) ?_
    refine g_icmp_ge (tgt := 56) C dX1_charactersIn_9 (by decide) (fun c1 => ?_) (fun c1 => ?_)
    · have hf := (f_if hf).1 c1
      refine g_sub (lv2 := [(5, .int s.2)]) [1] rfl ?_
      exact h56 s.2 hf
    · have hf := (f_if hf).2 c1
      refine g_lload_n C dX1_charactersIn_12 rfl 0 rfl ?_
      refine g_lconst (v := (0 : Int64)) C dX1_charactersIn_13 (by decide) ?_
      refine g_lcmp C dX1_charactersIn_14 ?_
      refine g_if_eq (tgt := 56) C dX1_charactersIn_15 (by decide) (fun c2 => ?_) (fun c2 => ?_)
      · have hf := (f_if hf).1 c2
        refine g_sub (lv2 := [(5, .int s.2)]) [1] rfl ?_
        exact h56 s.2 hf
      · have hf := (f_if hf).2 c2
        refine g_lload_n C dX1_charactersIn_18 rfl 0 rfl ?_
        refine g_ldc2 C mt_547 dX1_charactersIn_19 ?_
        refine g_land C dX1_charactersIn_22 ?_
        refine g_lstore (lv2 := [(6, .long (s.1 &&& (255 : Int64))), (3, .long s.1), (5, .int s.2)]) C dX1_charactersIn_23 (by decide) rfl ?_
        refine g_lload C dX1_charactersIn_25 0 rfl ?_
        refine g_ldc2 C mt_548 dX1_charactersIn_27 ?_
        refine g_lcmp C dX1_charactersIn_30 ?_
        refine g_if_lt (tgt := 43) C dX1_charactersIn_31 (by decide) (fun c3 => ?_) (fun c3 => ?_)
        · have hf := (f_if hf).1 c3
          refine g_sub (lv2 := []) [] rfl ?_
          exact h43 () hf
        · have hf := (f_if hf).2 c3
          refine g_lload C dX1_charactersIn_34 0 rfl ?_
          refine g_ldc2 C mt_549 dX1_charactersIn_36 ?_
          refine g_lcmp C dX1_charactersIn_39 ?_
          refine g_if_le (tgt := 45) C dX1_charactersIn_40 (by decide) (fun c4 => ?_) (fun c4 => ?_)
          · have hf := (f_if hf).1 c4
            refine g_lload_n C dX1_charactersIn_45 rfl 1 rfl ?_
            refine g_bipush (v := (8 : Int32)) C dX1_charactersIn_46 (by decide) ?_
            refine g_lushr C dX1_charactersIn_48 ?_
            refine g_lstore_n (lv2 := [(3, .long ((Int64.toUInt64 s.1 >>> ((Int32.toInt64 (8 : Int32)).toUInt64 &&& Int64.toUInt64 63)).toInt64)), (6, .long (s.1 &&& (255 : Int64))), (5, .int s.2)]) C dX1_charactersIn_49 rfl (by decide) rfl ?_
            refine g_iinc (v := (s.2 + (1 : Int32))) (lv2 := [(5, .int (s.2 + (1 : Int32))), (3, .long ((Int64.toUInt64 s.1 >>> ((Int32.toInt64 (8 : Int32)).toUInt64 &&& Int64.toUInt64 63)).toInt64)), (6, .long (s.1 &&& (255 : Int64)))]) C dX1_charactersIn_50 2 rfl (ii (by decide)) (by decide) rfl ?_
            refine g_goto (tgt := 5) C dX1_charactersIn_53 (by decide) ?_
            refine g_sub (lv2 := [(3, .long ((Int64.toUInt64 s.1 >>> ((Int32.toInt64 (8 : Int32)).toUInt64 &&& Int64.toUInt64 63)).toInt64)), (5, .int (s.2 + (1 : Int32)))]) [1, 0] rfl ?_
            exact hK5 ((Int64.toUInt64 s.1 >>> ((Int32.toInt64 (8 : Int32)).toUInt64 &&& Int64.toUInt64 63)).toInt64, (s.2 + (1 : Int32))) hf
          · have hf := (f_if hf).2 c4
            refine g_sub (lv2 := []) [] rfl ?_
            exact h43 () hf
  unfold f_X1_charactersIn at hf
  refine g_lload_n C dX1_charactersIn_0 rfl 1 rfl ?_
  refine g_lstore_n (lv2 := [(3, .long p0), (0, .ref (a 0)), (1, .long p0)]) C dX1_charactersIn_1 rfl (by decide) rfl ?_
  refine g_iconst (v := (0 : Int32)) C dX1_charactersIn_2 (by decide) ?_
  refine g_istore (lv2 := [(5, .int (0 : Int32)), (3, .long p0), (0, .ref (a 0)), (1, .long p0)]) C dX1_charactersIn_3 (by decide) rfl ?_
  refine g_sub (lv2 := [(3, .long p0), (5, .int (0 : Int32))]) [1, 0] rfl ?_
  exact h5 N (p0, (0 : Int32)) hf
def b_X1_append_57 (N : Nat) (V : Pd) (p0 : Int64) (p1 : Int32) (s : Pd) : Option (Pd) := some s
def b_X1_append_5 (N : Nat) (V : Pd) (p0 : Int64) (p1 : Int32) (K5 : (Pd × Int32) → Option (Pd)) (s : Pd × Int32) : Option (Pd) := (if s.2 < 0 then b_X1_append_57 N V p0 p1 s.1 else (if (60 : Int32) ≤ s.1.2 then b_X1_append_57 N V p0 p1 s.1 else (ix s.1.2 60 (K5 (((upd s.1.1 (Int32.toNatClampNeg s.1.2) (vp_nar .char ((Int32.toUInt32 (Int64.toInt32 ((Int64.toUInt64 p0 >>> ((Int32.toInt64 ((8 : Int32) * s.2)).toUInt64 &&& Int64.toUInt64 63)).toInt64 &&& (255 : Int64))) % 65536).toInt32))), (s.1.2 + (1 : Int32))), (s.2 - (1 : Int32)))))))
def f_X1_append (N : Nat) (V : Pd) (p0 : Int64) (p1 : Int32) : Option (Pd) := lp (b_X1_append_5 N V p0 p1) N (V, (p1 - (1 : Int32)))
abbrev rm_X1_append : Room := { frames := 0, cells := 0, slots := 0, locals := 0 }
set_option maxRecDepth 100000 in
theorem k_X1_append : CF yX1_append cX1_append 5 (Option.none : Option FieldType) 2 := ⟨mt_551, mt_552, mt_2, mt_553, ⟨rfl, by decide +kernel, by decide +kernel, by decide +kernel⟩⟩
set_option maxHeartbeats 4000000 in
set_option maxRecDepth 100000 in
theorem c_X1_append {E : Ev} {a : Nat → Nat} {V : Pd} {p0 : Int64} {p1 : Int32} {N : Nat} {o : Pd} (hf : f_X1_append N V p0 p1 = some o) : ∀ l, MG l yX1_append cX1_append 5 (Option.none : Option FieldType) rm_X1_append E [.ref (a 0), .long p0, .int p1] [pd E a V] (fun v Y => v = none ∧ Y = [pd E a o]) := by
  refine MG.mk (own := RX1) (lv0 := [(0, .ref (a 0)), (1, .long p0), (3, .int p1)]) (by decide) rfl (Nat.le_of_ble_eq_true rfl) rfl (fun X C K I => ?_)
  have h57 : ∀ s : Pd, b_X1_append_57 N V p0 p1 s = some o → G E X 5 [pd E a s] 0 0 [] [] 57 := by
    intro s hf
    unfold b_X1_append_57 at hf
    obtain rfl := Option.some.inj hf
    exact g_ret C K dX1_append_57 (Nat.le_of_ble_eq_true rfl) (Nat.le_of_ble_eq_true rfl) ⟨rfl, rfl⟩
  have h5 : ∀ (n : Nat) (s : Pd × Int32), lp (b_X1_append_5 N V p0 p1) n s = some o → G E X 5 [pd E a s.1] 0 0 [(0, .ref (a 0)), (1, .long p0), (4, .int s.2)] [] 5 := by
    refine lp_ind ?_
    intro K5 hK5 s hf
    unfold b_X1_append_5 at hf
    refine g_iload C dX1_append_5 2 rfl ?_
    refine g_if_lt (tgt := 57) C dX1_append_7 (by decide) (fun c1 => ?_) (fun c1 => ?_)
    · have hf := (f_if hf).1 c1
      refine g_sub (lv2 := []) [] rfl ?_
      exact h57 s.1 hf
    · have hf := (f_if hf).2 c1
      refine g_aload_n C dX1_append_10 rfl 0 rfl ?_
      refine g_get (Cl := RX1) (T := TX1) (N := 2) C mi_X1 0 rfl (List.mem_of_getElem? (i := 0) rfl) rfl 1 (by decide) mt_31 rfl rfl dX1_append_11 ?_
      refine g_bipush (v := (60 : Int32)) C dX1_append_14 (by decide) ?_
      refine g_icmp_ge (tgt := 57) C dX1_append_16 (by decide) (fun c2 => ?_) (fun c2 => ?_)
      · have hf := (f_if hf).1 c2
        refine g_sub (lv2 := []) [] rfl ?_
        exact h57 s.1 hf
      · have hf := (f_if hf).2 c2
        refine g_aload_n C dX1_append_19 rfl 0 rfl ?_
        refine g_get (Cl := RX1) (T := TX1) (N := 2) C mi_X1 0 rfl (List.mem_of_getElem? (i := 0) rfl) rfl 0 (by decide) mt_29 rfl rfl dX1_append_20 ?_
        refine g_aload_n C dX1_append_23 rfl 0 rfl ?_
        refine g_get (Cl := RX1) (T := TX1) (N := 2) C mi_X1 0 rfl (List.mem_of_getElem? (i := 0) rfl) rfl 1 (by decide) mt_31 rfl rfl dX1_append_24 ?_
        refine g_lload_n C dX1_append_27 rfl 1 rfl ?_
        refine g_bipush (v := (8 : Int32)) C dX1_append_28 (by decide) ?_
        refine g_iload C dX1_append_30 2 rfl ?_
        refine g_imul C dX1_append_32 ?_
        refine g_lushr C dX1_append_33 ?_
        refine g_ldc2 C mt_547 dX1_append_34 ?_
        refine g_land C dX1_append_37 ?_
        refine g_l2i C dX1_append_38 ?_
        refine g_i2c C dX1_append_39 ?_
        obtain ⟨i3, hf⟩ := ix_s hf
        refine g_cast (Y2 := [pd E a ((upd s.1.1 (Int32.toNatClampNeg s.1.2) (vp_nar .char ((Int32.toUInt32 (Int64.toInt32 ((Int64.toUInt64 p0 >>> ((Int32.toInt64 ((8 : Int32) * s.2)).toUInt64 &&& Int64.toUInt64 63)).toInt64 &&& (255 : Int64))) % 65536).toInt32))), s.1.2)]) C 0 1 rfl rfl i3 dX1_append_40 rfl ?_
        refine g_aload_n C dX1_append_41 rfl 0 rfl ?_
        refine g_dup C dX1_append_42 rfl ?_
        refine g_get (Cl := RX1) (T := TX1) (N := 2) C mi_X1 0 rfl (List.mem_of_getElem? (i := 0) rfl) rfl 1 (by decide) mt_31 rfl rfl dX1_append_43 ?_
        refine g_iconst (v := (1 : Int32)) C dX1_append_46 (by decide) ?_
        refine g_iadd C dX1_append_47 ?_
        refine g_put (Cl := RX1) (T := TX1) (N := 2) (Y2 := [pd E a ((upd s.1.1 (Int32.toNatClampNeg s.1.2) (vp_nar .char ((Int32.toUInt32 (Int64.toInt32 ((Int64.toUInt64 p0 >>> ((Int32.toInt64 ((8 : Int32) * s.2)).toUInt64 &&& Int64.toUInt64 63)).toInt64 &&& (255 : Int64))) % 65536).toInt32))), (s.1.2 + (1 : Int32)))]) C mi_X1 tyX1_ok nmX1 0 0 rfl rfl rfl 1 (by decide) mt_31 rfl rfl rfl rfl rfl (Nat.le_of_ble_eq_true rfl) dX1_append_48 rfl ?_
        refine g_iinc (v := (s.2 - (1 : Int32))) (lv2 := [(4, .int (s.2 - (1 : Int32))), (0, .ref (a 0)), (1, .long p0)]) C dX1_append_51 2 rfl dec1 (by decide) rfl ?_
        refine g_goto (tgt := 5) C dX1_append_54 (by decide) ?_
        refine g_sub (lv2 := [(0, .ref (a 0)), (1, .long p0), (4, .int (s.2 - (1 : Int32)))]) [1, 2, 0] rfl ?_
        exact hK5 (((upd s.1.1 (Int32.toNatClampNeg s.1.2) (vp_nar .char ((Int32.toUInt32 (Int64.toInt32 ((Int64.toUInt64 p0 >>> ((Int32.toInt64 ((8 : Int32) * s.2)).toUInt64 &&& Int64.toUInt64 63)).toInt64 &&& (255 : Int64))) % 65536).toInt32))), (s.1.2 + (1 : Int32))), (s.2 - (1 : Int32))) hf
  unfold f_X1_append at hf
  refine g_iload_n C dX1_append_0 rfl 2 rfl ?_
  refine g_iconst (v := (1 : Int32)) C dX1_append_1 (by decide) ?_
  refine g_isub C dX1_append_2 ?_
  refine g_istore (lv2 := [(4, .int (p1 - (1 : Int32))), (0, .ref (a 0)), (1, .long p0), (3, .int p1)]) C dX1_append_3 (by decide) rfl ?_
  refine g_sub (lv2 := [(0, .ref (a 0)), (1, .long p0), (4, .int (p1 - (1 : Int32)))]) [1, 2, 0] rfl ?_
  exact h5 N (V, (p1 - (1 : Int32))) hf
def b_X1_isLetter_29 (V : Pd) (p0 : Int32) (s : Int32) : Option (Int32) := (zb s (some s))
def b_X1_isLetter_28 (V : Pd) (p0 : Int32) (s : Unit) : Option (Int32) := b_X1_isLetter_29 V p0 (0 : Int32)
def b_X1_isLetter_24 (V : Pd) (p0 : Int32) (s : Unit) : Option (Int32) := b_X1_isLetter_29 V p0 (1 : Int32)
def b_X1_isLetter_12 (V : Pd) (p0 : Int32) (s : Unit) : Option (Int32) := (if p0 < (65 : Int32) then b_X1_isLetter_28 V p0 () else (if (68 : Int32) < p0 then b_X1_isLetter_28 V p0 () else b_X1_isLetter_24 V p0 ()))
def f_X1_isLetter (V : Pd) (p0 : Int32) : Option (Int32) := (if p0 < (97 : Int32) then b_X1_isLetter_12 V p0 () else (if p0 ≤ (100 : Int32) then b_X1_isLetter_24 V p0 () else b_X1_isLetter_12 V p0 ()))
abbrev rm_X1_isLetter : Room := { frames := 0, cells := 0, slots := 0, locals := 0 }
set_option maxRecDepth 100000 in
theorem k_X1_isLetter : CF yX1_isLetter cX1_isLetter 2 (some .boolean) 1 := ⟨mt_511, mp_23, mt_2, mt_512, ⟨rfl, by decide +kernel, by decide +kernel, by decide +kernel⟩⟩
set_option maxHeartbeats 4000000 in
set_option maxRecDepth 100000 in
theorem c_X1_isLetter {E : Ev} {a : Nat → Nat} {V : Pd} {p0 : Int32} {o : Int32} (hf : f_X1_isLetter V p0 = some o) : ∀ l, MG l yX1_isLetter cX1_isLetter 2 (some .boolean) rm_X1_isLetter E [.ref (a 0), .int p0] [pd E a V] (fun v Y => v = some (.int o) ∧ Y = [pd E a V]) := by
  refine MG.mk (own := RX1) (lv0 := [(0, .ref (a 0)), (1, .int p0)]) (by decide) rfl (Nat.le_of_ble_eq_true rfl) rfl (fun X C K I => ?_)
  have h29 : ∀ s : Int32, b_X1_isLetter_29 V p0 s = some o → G E X 2 [pd E a V] 0 0 [] [.int s] 29 := by
    intro s hf
    unfold b_X1_isLetter_29 at hf
    obtain ⟨z1, hf⟩ := zb_s hf
    obtain rfl := Option.some.inj hf
    exact g_zret C K z1 dX1_isLetter_29 (Nat.le_of_ble_eq_true rfl) (Nat.le_of_ble_eq_true rfl) ⟨rfl, rfl⟩
  have h28 : ∀ s : Unit, b_X1_isLetter_28 V p0 s = some o → G E X 2 [pd E a V] 0 0 [] [] 28 := by
    intro s hf
    unfold b_X1_isLetter_28 at hf
    refine g_iconst (v := (0 : Int32)) C dX1_isLetter_28 (by decide) ?_
    exact h29 (0 : Int32) hf
  have h24 : ∀ s : Unit, b_X1_isLetter_24 V p0 s = some o → G E X 2 [pd E a V] 0 0 [] [] 24 := by
    intro s hf
    unfold b_X1_isLetter_24 at hf
    refine g_iconst (v := (1 : Int32)) C dX1_isLetter_24 (by decide) ?_
    refine g_goto (tgt := 29) C dX1_isLetter_25 (by decide) ?_
    exact h29 (1 : Int32) hf
  have h12 : ∀ s : Unit, b_X1_isLetter_12 V p0 s = some o → G E X 2 [pd E a V] 0 0 [(1, .int p0)] [] 12 := by
    intro s hf
    unfold b_X1_isLetter_12 at hf
    refine g_iload_n C dX1_isLetter_12 rfl 0 rfl ?_
    refine g_bipush (v := (65 : Int32)) C dX1_isLetter_13 (by decide) ?_
    refine g_icmp_lt (tgt := 28) C dX1_isLetter_15 (by decide) (fun c2 => ?_) (fun c2 => ?_)
    · have hf := (f_if hf).1 c2
      refine g_sub (lv2 := []) [] rfl ?_
      exact h28 () hf
    · have hf := (f_if hf).2 c2
      refine g_iload_n C dX1_isLetter_18 rfl 0 rfl ?_
      refine g_bipush (v := (68 : Int32)) C dX1_isLetter_19 (by decide) ?_
      refine g_icmp_gt (tgt := 28) C dX1_isLetter_21 (by decide) (fun c3 => ?_) (fun c3 => ?_)
      · have hf := (f_if hf).1 c3
        refine g_sub (lv2 := []) [] rfl ?_
        exact h28 () hf
      · have hf := (f_if hf).2 c3
        refine g_sub (lv2 := []) [] rfl ?_
        exact h24 () hf
  unfold f_X1_isLetter at hf
  refine g_iload_n C dX1_isLetter_0 rfl 1 rfl ?_
  refine g_bipush (v := (97 : Int32)) C dX1_isLetter_1 (by decide) ?_
  refine g_icmp_lt (tgt := 12) C dX1_isLetter_3 (by decide) (fun c4 => ?_) (fun c4 => ?_)
  · have hf := (f_if hf).1 c4
    refine g_sub (lv2 := [(1, .int p0)]) [1] rfl ?_
    exact h12 () hf
  · have hf := (f_if hf).2 c4
    refine g_iload_n C dX1_isLetter_6 rfl 1 rfl ?_
    refine g_bipush (v := (100 : Int32)) C dX1_isLetter_7 (by decide) ?_
    refine g_icmp_le (tgt := 24) C dX1_isLetter_9 (by decide) (fun c5 => ?_) (fun c5 => ?_)
    · have hf := (f_if hf).1 c5
      refine g_sub (lv2 := []) [] rfl ?_
      exact h24 () hf
    · have hf := (f_if hf).2 c5
      refine g_sub (lv2 := [(1, .int p0)]) [1] rfl ?_
      exact h12 () hf
def b_X1_beginsPart_25 (V : Pd) (p0 : Int32) (s : Int32) : Option (Int32) := (zb s (some s))
def b_X1_beginsPart_20 (V : Pd) (p0 : Int32) (s : Unit) : Option (Int32) := b_X1_beginsPart_25 V p0 (1 : Int32)
def f_X1_beginsPart (V : Pd) (p0 : Int32) : Option (Int32) := (if p0 = (40 : Int32) then b_X1_beginsPart_20 V p0 () else (if p0 = (33 : Int32) then b_X1_beginsPart_20 V p0 () else ((f_X1_isLetter V p0).bind fun o4 => (if o4 = 0 then b_X1_beginsPart_25 V p0 (0 : Int32) else b_X1_beginsPart_20 V p0 ()))))
abbrev rm_X1_beginsPart : Room := { frames := 1, cells := 0, slots := 0, locals := 21 }
set_option maxRecDepth 100000 in
theorem k_X1_beginsPart : CF yX1_beginsPart cX1_beginsPart 2 (some .boolean) 1 := ⟨mt_507, mp_22, mt_2, mt_508, ⟨rfl, by decide +kernel, by decide +kernel, by decide +kernel⟩⟩
set_option maxHeartbeats 4000000 in
set_option maxRecDepth 100000 in
theorem c_X1_beginsPart {E : Ev} {a : Nat → Nat} {V : Pd} {p0 : Int32} {o : Int32} (hf : f_X1_beginsPart V p0 = some o) : ∀ l, MG l yX1_beginsPart cX1_beginsPart 2 (some .boolean) rm_X1_beginsPart E [.ref (a 0), .int p0] [pd E a V] (fun v Y => v = some (.int o) ∧ Y = [pd E a V]) := by
  refine MG.mk (own := RX1) (lv0 := [(0, .ref (a 0)), (1, .int p0)]) (by decide) rfl (Nat.le_of_ble_eq_true rfl) rfl (fun X C K I => ?_)
  have h25 : ∀ s : Int32, b_X1_beginsPart_25 V p0 s = some o → G E X 2 [pd E a V] 0 0 [] [.int s] 25 := by
    intro s hf
    unfold b_X1_beginsPart_25 at hf
    obtain ⟨z1, hf⟩ := zb_s hf
    obtain rfl := Option.some.inj hf
    exact g_zret C K z1 dX1_beginsPart_25 (Nat.le_of_ble_eq_true rfl) (Nat.le_of_ble_eq_true rfl) ⟨rfl, rfl⟩
  have h20 : ∀ s : Unit, b_X1_beginsPart_20 V p0 s = some o → G E X 2 [pd E a V] 0 0 [] [] 20 := by
    intro s hf
    unfold b_X1_beginsPart_20 at hf
    refine g_iconst (v := (1 : Int32)) C dX1_beginsPart_20 (by decide) ?_
    refine g_goto (tgt := 25) C dX1_beginsPart_21 (by decide) ?_
    exact h25 (1 : Int32) hf
  unfold f_X1_beginsPart at hf
  refine g_iload_n C dX1_beginsPart_0 rfl 1 rfl ?_
  refine g_bipush (v := (40 : Int32)) C dX1_beginsPart_1 (by decide) ?_
  refine g_icmp_eq (tgt := 20) C dX1_beginsPart_3 (by decide) (fun c2 => ?_) (fun c2 => ?_)
  · have hf := (f_if hf).1 c2
    refine g_sub (lv2 := []) [] rfl ?_
    exact h20 () hf
  · have hf := (f_if hf).2 c2
    refine g_iload_n C dX1_beginsPart_6 rfl 1 rfl ?_
    refine g_bipush (v := (33 : Int32)) C dX1_beginsPart_7 (by decide) ?_
    refine g_icmp_eq (tgt := 20) C dX1_beginsPart_9 (by decide) (fun c3 => ?_) (fun c3 => ?_)
    · have hf := (f_if hf).1 c3
      refine g_sub (lv2 := []) [] rfl ?_
      exact h20 () hf
    · have hf := (f_if hf).2 c3
      refine g_aload_n C dX1_beginsPart_12 rfl 0 rfl ?_
      refine g_iload_n C dX1_beginsPart_13 rfl 1 rfl ?_
      obtain ⟨o4, hq5, hf⟩ := bind_s hf
      refine g_callV (As := [.int p0]) (rest := []) C k_X1_isLetter (fun l => c_X1_isLetter (E := E) (a := a) (V := V) hq5 l) mt_509 [0] rfl (by decide) ⟨_, _, _, _, List.mem_flatten.mpr ⟨_, List.mem_of_getElem? (i := 0) rfl, List.mem_of_getElem? (i := 0) rfl⟩, rfl⟩ rfl (Nat.le_of_ble_eq_true rfl) ⟨Nat.le_of_ble_eq_true rfl, Nat.le_of_ble_eq_true rfl, Nat.le_of_ble_eq_true rfl, Nat.le_of_ble_eq_true rfl⟩ dX1_beginsPart_14 ?_
      rintro _ _ ⟨rfl, rfl⟩
      show G E X 2 [pd E a V] 0 0 [(0, .ref (a 0)), (1, .int p0)] [.int o4] 17
      refine g_if_eq (tgt := 24) C dX1_beginsPart_17 (by decide) (fun c6 => ?_) (fun c6 => ?_)
      · have hf := (f_if hf).1 c6
        refine g_iconst (v := (0 : Int32)) C dX1_beginsPart_24 (by decide) ?_
        refine g_sub (lv2 := []) [] rfl ?_
        exact h25 (0 : Int32) hf
      · have hf := (f_if hf).2 c6
        refine g_sub (lv2 := []) [] rfl ?_
        exact h20 () hf
def b_X1_followsPart_27 (V : Pd) (p0 : Int32) (p1 : Int32) (s : Int32) : Option (Int32) := (zb s (some s))
def b_X1_followsPart_26 (V : Pd) (p0 : Int32) (p1 : Int32) (s : Unit) : Option (Int32) := b_X1_followsPart_27 V p0 p1 (0 : Int32)
def b_X1_followsPart_22 (V : Pd) (p0 : Int32) (p1 : Int32) (s : Unit) : Option (Int32) := b_X1_followsPart_27 V p0 p1 (1 : Int32)
def f_X1_followsPart (V : Pd) (p0 : Int32) (p1 : Int32) : Option (Int32) := (if p0 = (38 : Int32) then b_X1_followsPart_22 V p0 p1 () else (if p0 = (124 : Int32) then b_X1_followsPart_22 V p0 p1 () else (if p0 = (41 : Int32) then (if p1 ≤ 0 then b_X1_followsPart_26 V p0 p1 () else b_X1_followsPart_22 V p0 p1 ()) else b_X1_followsPart_26 V p0 p1 ())))
abbrev rm_X1_followsPart : Room := { frames := 0, cells := 0, slots := 0, locals := 0 }
set_option maxRecDepth 100000 in
theorem k_X1_followsPart : CF yX1_followsPart cX1_followsPart 3 (some .boolean) 2 := ⟨mt_515, mp_24, mt_2, mt_516, ⟨rfl, by decide +kernel, by decide +kernel, by decide +kernel⟩⟩
set_option maxHeartbeats 4000000 in
set_option maxRecDepth 100000 in
theorem c_X1_followsPart {E : Ev} {a : Nat → Nat} {V : Pd} {p0 : Int32} {p1 : Int32} {o : Int32} (hf : f_X1_followsPart V p0 p1 = some o) : ∀ l, MG l yX1_followsPart cX1_followsPart 3 (some .boolean) rm_X1_followsPart E [.ref (a 0), .int p0, .int p1] [pd E a V] (fun v Y => v = some (.int o) ∧ Y = [pd E a V]) := by
  refine MG.mk (own := RX1) (lv0 := [(0, .ref (a 0)), (1, .int p0), (2, .int p1)]) (by decide) rfl (Nat.le_of_ble_eq_true rfl) rfl (fun X C K I => ?_)
  have h27 : ∀ s : Int32, b_X1_followsPart_27 V p0 p1 s = some o → G E X 3 [pd E a V] 0 0 [] [.int s] 27 := by
    intro s hf
    unfold b_X1_followsPart_27 at hf
    obtain ⟨z1, hf⟩ := zb_s hf
    obtain rfl := Option.some.inj hf
    exact g_zret C K z1 dX1_followsPart_27 (Nat.le_of_ble_eq_true rfl) (Nat.le_of_ble_eq_true rfl) ⟨rfl, rfl⟩
  have h26 : ∀ s : Unit, b_X1_followsPart_26 V p0 p1 s = some o → G E X 3 [pd E a V] 0 0 [] [] 26 := by
    intro s hf
    unfold b_X1_followsPart_26 at hf
    refine g_iconst (v := (0 : Int32)) C dX1_followsPart_26 (by decide) ?_
    exact h27 (0 : Int32) hf
  have h22 : ∀ s : Unit, b_X1_followsPart_22 V p0 p1 s = some o → G E X 3 [pd E a V] 0 0 [] [] 22 := by
    intro s hf
    unfold b_X1_followsPart_22 at hf
    refine g_iconst (v := (1 : Int32)) C dX1_followsPart_22 (by decide) ?_
    refine g_goto (tgt := 27) C dX1_followsPart_23 (by decide) ?_
    exact h27 (1 : Int32) hf
  unfold f_X1_followsPart at hf
  refine g_iload_n C dX1_followsPart_0 rfl 1 rfl ?_
  refine g_bipush (v := (38 : Int32)) C dX1_followsPart_1 (by decide) ?_
  refine g_icmp_eq (tgt := 22) C dX1_followsPart_3 (by decide) (fun c2 => ?_) (fun c2 => ?_)
  · have hf := (f_if hf).1 c2
    refine g_sub (lv2 := []) [] rfl ?_
    exact h22 () hf
  · have hf := (f_if hf).2 c2
    refine g_iload_n C dX1_followsPart_6 rfl 1 rfl ?_
    refine g_bipush (v := (124 : Int32)) C dX1_followsPart_7 (by decide) ?_
    refine g_icmp_eq (tgt := 22) C dX1_followsPart_9 (by decide) (fun c3 => ?_) (fun c3 => ?_)
    · have hf := (f_if hf).1 c3
      refine g_sub (lv2 := []) [] rfl ?_
      exact h22 () hf
    · have hf := (f_if hf).2 c3
      refine g_iload_n C dX1_followsPart_12 rfl 1 rfl ?_
      refine g_bipush (v := (41 : Int32)) C dX1_followsPart_13 (by decide) ?_
      refine g_icmp_ne (tgt := 26) C dX1_followsPart_15 (by decide) (fun c4 => ?_) (fun c4 => ?_)
      · have hf := (f_if hf).2 c4
        refine g_sub (lv2 := []) [] rfl ?_
        exact h26 () hf
      · have hf := (f_if hf).1 c4
        refine g_iload_n C dX1_followsPart_18 rfl 2 rfl ?_
        refine g_if_le (tgt := 26) C dX1_followsPart_19 (by decide) (fun c5 => ?_) (fun c5 => ?_)
        · have hf := (f_if hf).1 c5
          refine g_sub (lv2 := []) [] rfl ?_
          exact h26 () hf
        · have hf := (f_if hf).2 c5
          refine g_sub (lv2 := []) [] rfl ?_
          exact h22 () hf
def b_X1_findFault_122 (N : Nat) (V : Pd) (s : Int32) : Option (Int32) := some s
def b_X1_findFault_113 (N : Nat) (V : Pd) (s : Unit) : Option (Int32) := b_X1_findFault_122 N V V.2
def b_X1_findFault_105 (N : Nat) (V : Pd) (s : Int32 × Int32) : Option (Int32) := (if s.1 = 0 then (if s.2 ≤ 0 then b_X1_findFault_122 N V (-6 : Int32) else b_X1_findFault_113 N V ()) else b_X1_findFault_113 N V ())
def b_X1_findFault_99 (N : Nat) (V : Pd) (K6 : (Int32 × Int32 × Int32) → Option (Int32)) (s : Int32 × Int32 × Int32) : Option (Int32) := K6 (s.1, s.2.1, (s.2.2 + (1 : Int32)))
def b_X1_findFault_98 (N : Nat) (V : Pd) (K6 : (Int32 × Int32 × Int32) → Option (Int32)) (s : Int32 × Int32 × Int32) : Option (Int32) := b_X1_findFault_99 N V K6 (s.2.2, s.1, s.2.1)
def b_X1_findFault_56 (N : Nat) (V : Pd) (K6 : (Int32 × Int32 × Int32) → Option (Int32)) (s : Int32 × Int32 × Int32 × Int32) : Option (Int32) := (if s.2.2.2 = (40 : Int32) then b_X1_findFault_99 N V K6 (s.1, (s.2.1 + (1 : Int32)), s.2.2.1) else (if s.2.2.2 = (41 : Int32) then b_X1_findFault_99 N V K6 (s.1, (s.2.1 - (1 : Int32)), s.2.2.1) else (if s.2.2.2 = (33 : Int32) then b_X1_findFault_99 N V K6 (s.1, s.2.1, s.2.2.1) else (if s.1 = 0 then b_X1_findFault_98 N V K6 (s.2.1, s.2.2.1, (1 : Int32)) else b_X1_findFault_98 N V K6 (s.2.1, s.2.2.1, (0 : Int32))))))
def b_X1_findFault_54 (N : Nat) (V : Pd) (s : Int32) : Option (Int32) := some s
def b_X1_findFault_6 (N : Nat) (V : Pd) (K6 : (Int32 × Int32 × Int32) → Option (Int32)) (s : Int32 × Int32 × Int32) : Option (Int32) := (if V.2 ≤ s.2.2 then b_X1_findFault_105 N V (s.1, s.2.1) else (if (60 : Int32) ≤ s.2.2 then b_X1_findFault_105 N V (s.1, s.2.1) else (ix s.2.2 60 (if s.1 = 0 then ((f_X1_followsPart V (V.1 (Int32.toNatClampNeg s.2.2)) s.2.1).bind fun o11 => (if o11 = 0 then b_X1_findFault_54 N V s.2.2 else b_X1_findFault_56 N V K6 (s.1, s.2.1, s.2.2, (V.1 (Int32.toNatClampNeg s.2.2))))) else ((f_X1_beginsPart V (V.1 (Int32.toNatClampNeg s.2.2))).bind fun o14 => (if o14 = 0 then b_X1_findFault_54 N V s.2.2 else b_X1_findFault_56 N V K6 (s.1, s.2.1, s.2.2, (V.1 (Int32.toNatClampNeg s.2.2)))))))))
def f_X1_findFault (N : Nat) (V : Pd) : Option (Int32) := lp (b_X1_findFault_6 N V) N ((1 : Int32), (0 : Int32), (0 : Int32))
abbrev rm_X1_findFault : Room := { frames := 2, cells := 0, slots := 0, locals := 42 }
set_option maxRecDepth 100000 in
theorem k_X1_findFault : CF yX1_findFault cX1_findFault 5 (some .int) 0 := ⟨mt_502, mt_503, mt_2, mt_504, ⟨rfl, by decide +kernel, by decide +kernel, by decide +kernel⟩⟩
set_option maxHeartbeats 4000000 in
set_option maxRecDepth 100000 in
theorem c_X1_findFault {E : Ev} {a : Nat → Nat} {V : Pd} {N : Nat} {o : Int32} (hf : f_X1_findFault N V = some o) : ∀ l, MG l yX1_findFault cX1_findFault 5 (some .int) rm_X1_findFault E [.ref (a 0)] [pd E a V] (fun v Y => v = some (.int o) ∧ Y = [pd E a V]) := by
  refine MG.mk (own := RX1) (lv0 := [(0, .ref (a 0))]) (by decide) rfl (Nat.le_of_ble_eq_true rfl) rfl (fun X C K I => ?_)
  have h122 : ∀ s : Int32, b_X1_findFault_122 N V s = some o → G E X 5 [pd E a V] 0 0 [] [.int s] 122 := by
    intro s hf
    unfold b_X1_findFault_122 at hf
    obtain rfl := Option.some.inj hf
    exact g_iret C K dX1_findFault_122 (Nat.le_of_ble_eq_true rfl) (Nat.le_of_ble_eq_true rfl) ⟨rfl, rfl⟩
  have h113 : ∀ s : Unit, b_X1_findFault_113 N V s = some o → G E X 5 [pd E a V] 0 0 [(0, .ref (a 0))] [] 113 := by
    intro s hf
    unfold b_X1_findFault_113 at hf
    refine g_aload_n C dX1_findFault_113 rfl 0 rfl ?_
    refine g_get (Cl := RX1) (T := TX1) (N := 2) C mi_X1 0 rfl (List.mem_of_getElem? (i := 0) rfl) rfl 1 (by decide) mt_31 rfl rfl dX1_findFault_114 ?_
    refine g_goto (tgt := 122) C dX1_findFault_117 (by decide) ?_
    refine g_sub (lv2 := []) [] rfl ?_
    exact h122 V.2 hf
  have h105 : ∀ s : Int32 × Int32, b_X1_findFault_105 N V s = some o → G E X 5 [pd E a V] 0 0 [(0, .ref (a 0)), (1, .int s.1), (2, .int s.2)] [] 105 := by
    intro s hf
    unfold b_X1_findFault_105 at hf
    refine g_iload_n C dX1_findFault_105 rfl 1 rfl ?_
    refine g_if_ne (tgt := 113) C dX1_findFault_106 (by decide) (fun c1 => ?_) (fun c1 => ?_)
    · have hf := (f_if hf).2 c1
      refine g_sub (lv2 := [(0, .ref (a 0))]) [0] rfl ?_
      exact h113 () hf
    · have hf := (f_if hf).1 c1
      refine g_iload_n C dX1_findFault_109 rfl 2 rfl ?_
      refine g_if_le (tgt := 120) C dX1_findFault_110 (by decide) (fun c2 => ?_) (fun c2 => ?_)
      · have hf := (f_if hf).1 c2
        refine g_bipush (v := (-6 : Int32)) C dX1_findFault_120 (by decide) ?_
        refine g_sub (lv2 := []) [] rfl ?_
        exact h122 (-6 : Int32) hf
      · have hf := (f_if hf).2 c2
        refine g_sub (lv2 := [(0, .ref (a 0))]) [0] rfl ?_
        exact h113 () hf
  have h99 : ∀ (K6 : (Int32 × Int32 × Int32) → Option (Int32)), (∀ s : Int32 × Int32 × Int32, K6 s = some o → G E X 5 [pd E a V] 0 0 [(0, .ref (a 0)), (1, .int s.1), (2, .int s.2.1), (3, .int s.2.2)] [] 6) → ∀ s : Int32 × Int32 × Int32, b_X1_findFault_99 N V K6 s = some o → G E X 5 [pd E a V] 0 0 [(0, .ref (a 0)), (1, .int s.1), (2, .int s.2.1), (3, .int s.2.2)] [] 99 := by
    intro K6 hK6 s hf
    unfold b_X1_findFault_99 at hf
    refine g_iinc (v := (s.2.2 + (1 : Int32))) (lv2 := [(3, .int (s.2.2 + (1 : Int32))), (0, .ref (a 0)), (1, .int s.1), (2, .int s.2.1)]) C dX1_findFault_99 3 rfl (ii (by decide)) (by decide) rfl ?_
    refine g_goto (tgt := 6) C dX1_findFault_102 (by decide) ?_
    refine g_sub (lv2 := [(0, .ref (a 0)), (1, .int s.1), (2, .int s.2.1), (3, .int (s.2.2 + (1 : Int32)))]) [1, 2, 3, 0] rfl ?_
    exact hK6 (s.1, s.2.1, (s.2.2 + (1 : Int32))) hf
  have h98 : ∀ (K6 : (Int32 × Int32 × Int32) → Option (Int32)), (∀ s : Int32 × Int32 × Int32, K6 s = some o → G E X 5 [pd E a V] 0 0 [(0, .ref (a 0)), (1, .int s.1), (2, .int s.2.1), (3, .int s.2.2)] [] 6) → ∀ s : Int32 × Int32 × Int32, b_X1_findFault_98 N V K6 s = some o → G E X 5 [pd E a V] 0 0 [(0, .ref (a 0)), (2, .int s.1), (3, .int s.2.1)] [.int s.2.2] 98 := by
    intro K6 hK6 s hf
    unfold b_X1_findFault_98 at hf
    refine g_istore_n (lv2 := [(1, .int s.2.2), (0, .ref (a 0)), (2, .int s.1), (3, .int s.2.1)]) C dX1_findFault_98 rfl (by decide) rfl ?_
    refine g_sub (lv2 := [(0, .ref (a 0)), (1, .int s.2.2), (2, .int s.1), (3, .int s.2.1)]) [1, 0, 2, 3] rfl ?_
    exact h99 K6 hK6 (s.2.2, s.1, s.2.1) hf
  have h56 : ∀ (K6 : (Int32 × Int32 × Int32) → Option (Int32)), (∀ s : Int32 × Int32 × Int32, K6 s = some o → G E X 5 [pd E a V] 0 0 [(0, .ref (a 0)), (1, .int s.1), (2, .int s.2.1), (3, .int s.2.2)] [] 6) → ∀ s : Int32 × Int32 × Int32 × Int32, b_X1_findFault_56 N V K6 s = some o → G E X 5 [pd E a V] 0 0 [(0, .ref (a 0)), (1, .int s.1), (2, .int s.2.1), (3, .int s.2.2.1), (4, .int s.2.2.2)] [] 56 := by
    intro K6 hK6 s hf
    unfold b_X1_findFault_56 at hf
    refine g_iload C dX1_findFault_56 4 rfl ?_
    refine g_bipush (v := (40 : Int32)) C dX1_findFault_58 (by decide) ?_
    refine g_icmp_ne (tgt := 69) C dX1_findFault_60 (by decide) (fun c3 => ?_) (fun c3 => ?_)
    · have hf := (f_if hf).2 c3
      refine g_iload C dX1_findFault_69 4 rfl ?_
      refine g_bipush (v := (41 : Int32)) C dX1_findFault_71 (by decide) ?_
      refine g_icmp_ne (tgt := 82) C dX1_findFault_73 (by decide) (fun c4 => ?_) (fun c4 => ?_)
      · have hf := (f_if hf).2 c4
        refine g_iload C dX1_findFault_82 4 rfl ?_
        refine g_bipush (v := (33 : Int32)) C dX1_findFault_84 (by decide) ?_
        refine g_icmp_eq (tgt := 99) C dX1_findFault_86 (by decide) (fun c5 => ?_) (fun c5 => ?_)
        · have hf := (f_if hf).1 c5
          refine g_sub (lv2 := [(0, .ref (a 0)), (1, .int s.1), (2, .int s.2.1), (3, .int s.2.2.1)]) [0, 1, 2, 3] rfl ?_
          exact h99 K6 hK6 (s.1, s.2.1, s.2.2.1) hf
        · have hf := (f_if hf).2 c5
          refine g_iload_n C dX1_findFault_89 rfl 1 rfl ?_
          refine g_if_ne (tgt := 97) C dX1_findFault_90 (by decide) (fun c6 => ?_) (fun c6 => ?_)
          · have hf := (f_if hf).2 c6
            refine g_iconst (v := (0 : Int32)) C dX1_findFault_97 (by decide) ?_
            refine g_sub (lv2 := [(0, .ref (a 0)), (2, .int s.2.1), (3, .int s.2.2.1)]) [0, 2, 3] rfl ?_
            exact h98 K6 hK6 (s.2.1, s.2.2.1, (0 : Int32)) hf
          · have hf := (f_if hf).1 c6
            refine g_iconst (v := (1 : Int32)) C dX1_findFault_93 (by decide) ?_
            refine g_goto (tgt := 98) C dX1_findFault_94 (by decide) ?_
            refine g_sub (lv2 := [(0, .ref (a 0)), (2, .int s.2.1), (3, .int s.2.2.1)]) [0, 2, 3] rfl ?_
            exact h98 K6 hK6 (s.2.1, s.2.2.1, (1 : Int32)) hf
      · have hf := (f_if hf).1 c4
        refine g_iinc (v := (s.2.1 - (1 : Int32))) (lv2 := [(2, .int (s.2.1 - (1 : Int32))), (0, .ref (a 0)), (1, .int s.1), (3, .int s.2.2.1), (4, .int s.2.2.2)]) C dX1_findFault_76 2 rfl dec1 (by decide) rfl ?_
        refine g_goto (tgt := 99) C dX1_findFault_79 (by decide) ?_
        refine g_sub (lv2 := [(0, .ref (a 0)), (1, .int s.1), (2, .int (s.2.1 - (1 : Int32))), (3, .int s.2.2.1)]) [1, 2, 0, 3] rfl ?_
        exact h99 K6 hK6 (s.1, (s.2.1 - (1 : Int32)), s.2.2.1) hf
    · have hf := (f_if hf).1 c3
      refine g_iinc (v := (s.2.1 + (1 : Int32))) (lv2 := [(2, .int (s.2.1 + (1 : Int32))), (0, .ref (a 0)), (1, .int s.1), (3, .int s.2.2.1), (4, .int s.2.2.2)]) C dX1_findFault_63 2 rfl (ii (by decide)) (by decide) rfl ?_
      refine g_goto (tgt := 99) C dX1_findFault_66 (by decide) ?_
      refine g_sub (lv2 := [(0, .ref (a 0)), (1, .int s.1), (2, .int (s.2.1 + (1 : Int32))), (3, .int s.2.2.1)]) [1, 2, 0, 3] rfl ?_
      exact h99 K6 hK6 (s.1, (s.2.1 + (1 : Int32)), s.2.2.1) hf
  have h54 : ∀ s : Int32, b_X1_findFault_54 N V s = some o → G E X 5 [pd E a V] 0 0 [(3, .int s)] [] 54 := by
    intro s hf
    unfold b_X1_findFault_54 at hf
    refine g_iload_n C dX1_findFault_54 rfl 0 rfl ?_
    obtain rfl := Option.some.inj hf
    exact g_iret C K dX1_findFault_55 (Nat.le_of_ble_eq_true rfl) (Nat.le_of_ble_eq_true rfl) ⟨rfl, rfl⟩
  have h6 : ∀ (n : Nat) (s : Int32 × Int32 × Int32), lp (b_X1_findFault_6 N V) n s = some o → G E X 5 [pd E a V] 0 0 [(0, .ref (a 0)), (1, .int s.1), (2, .int s.2.1), (3, .int s.2.2)] [] 6 := by
    refine lp_ind ?_
    intro K6 hK6 s hf
    unfold b_X1_findFault_6 at hf
    refine g_iload_n C dX1_findFault_6 rfl 3 rfl ?_
    refine g_aload_n C dX1_findFault_7 rfl 0 rfl ?_
    refine g_get (Cl := RX1) (T := TX1) (N := 2) C mi_X1 0 rfl (List.mem_of_getElem? (i := 0) rfl) rfl 1 (by decide) mt_31 rfl rfl dX1_findFault_8 ?_
    refine g_icmp_ge (tgt := 105) C dX1_findFault_11 (by decide) (fun c7 => ?_) (fun c7 => ?_)
    · have hf := (f_if hf).1 c7
      refine g_sub (lv2 := [(0, .ref (a 0)), (1, .int s.1), (2, .int s.2.1)]) [0, 1, 2] rfl ?_
      exact h105 (s.1, s.2.1) hf
    · have hf := (f_if hf).2 c7
      refine g_iload_n C dX1_findFault_14 rfl 3 rfl ?_
      refine g_bipush (v := (60 : Int32)) C dX1_findFault_15 (by decide) ?_
      refine g_icmp_ge (tgt := 105) C dX1_findFault_17 (by decide) (fun c8 => ?_) (fun c8 => ?_)
      · have hf := (f_if hf).1 c8
        refine g_sub (lv2 := [(0, .ref (a 0)), (1, .int s.1), (2, .int s.2.1)]) [0, 1, 2] rfl ?_
        exact h105 (s.1, s.2.1) hf
      · have hf := (f_if hf).2 c8
        refine g_aload_n C dX1_findFault_20 rfl 0 rfl ?_
        refine g_get (Cl := RX1) (T := TX1) (N := 2) C mi_X1 0 rfl (List.mem_of_getElem? (i := 0) rfl) rfl 0 (by decide) mt_29 rfl rfl dX1_findFault_21 ?_
        refine g_iload_n C dX1_findFault_24 rfl 3 rfl ?_
        obtain ⟨i9, hf⟩ := ix_s hf
        refine g_cald C 0 rfl (List.mem_of_getElem? (i := 1) rfl) i9 dX1_findFault_25 ?_
        refine g_istore (lv2 := [(4, .int (V.1 (Int32.toNatClampNeg s.2.2))), (0, .ref (a 0)), (1, .int s.1), (2, .int s.2.1), (3, .int s.2.2)]) C dX1_findFault_26 (by decide) rfl ?_
        refine g_iload_n C dX1_findFault_28 rfl 2 rfl ?_
        refine g_if_eq (tgt := 44) C dX1_findFault_29 (by decide) (fun c10 => ?_) (fun c10 => ?_)
        · have hf := (f_if hf).1 c10
          refine g_aload_n C dX1_findFault_44 rfl 1 rfl ?_
          refine g_iload C dX1_findFault_45 0 rfl ?_
          refine g_iload_n C dX1_findFault_47 rfl 3 rfl ?_
          obtain ⟨o11, hq12, hf⟩ := bind_s hf
          refine g_callV (As := [.int (V.1 (Int32.toNatClampNeg s.2.2)), .int s.2.1]) (rest := []) C k_X1_followsPart (fun l => c_X1_followsPart (E := E) (a := a) (V := V) hq12 l) mt_513 [0] rfl (by decide) ⟨_, _, _, _, List.mem_flatten.mpr ⟨_, List.mem_of_getElem? (i := 0) rfl, List.mem_of_getElem? (i := 0) rfl⟩, rfl⟩ rfl (Nat.le_of_ble_eq_true rfl) ⟨Nat.le_of_ble_eq_true rfl, Nat.le_of_ble_eq_true rfl, Nat.le_of_ble_eq_true rfl, Nat.le_of_ble_eq_true rfl⟩ dX1_findFault_48 ?_
          rintro _ _ ⟨rfl, rfl⟩
          show G E X 5 [pd E a V] 0 0 [(4, .int (V.1 (Int32.toNatClampNeg s.2.2))), (0, .ref (a 0)), (1, .int s.1), (2, .int s.2.1), (3, .int s.2.2)] [.int o11] 51
          refine g_if_ne (tgt := 56) C dX1_findFault_51 (by decide) (fun c13 => ?_) (fun c13 => ?_)
          · have hf := (f_if hf).2 c13
            refine g_sub (lv2 := [(0, .ref (a 0)), (1, .int s.1), (2, .int s.2.1), (3, .int s.2.2), (4, .int (V.1 (Int32.toNatClampNeg s.2.2)))]) [1, 2, 3, 4, 0] rfl ?_
            exact h56 K6 hK6 (s.1, s.2.1, s.2.2, (V.1 (Int32.toNatClampNeg s.2.2))) hf
          · have hf := (f_if hf).1 c13
            refine g_sub (lv2 := [(3, .int s.2.2)]) [4] rfl ?_
            exact h54 s.2.2 hf
        · have hf := (f_if hf).2 c10
          refine g_aload_n C dX1_findFault_32 rfl 1 rfl ?_
          refine g_iload C dX1_findFault_33 0 rfl ?_
          obtain ⟨o14, hq15, hf⟩ := bind_s hf
          refine g_callV (As := [.int (V.1 (Int32.toNatClampNeg s.2.2))]) (rest := []) C k_X1_beginsPart (fun l => c_X1_beginsPart (E := E) (a := a) (V := V) hq15 l) mt_505 [0] rfl (by decide) ⟨_, _, _, _, List.mem_flatten.mpr ⟨_, List.mem_of_getElem? (i := 0) rfl, List.mem_of_getElem? (i := 0) rfl⟩, rfl⟩ rfl (Nat.le_of_ble_eq_true rfl) ⟨Nat.le_of_ble_eq_true rfl, Nat.le_of_ble_eq_true rfl, Nat.le_of_ble_eq_true rfl, Nat.le_of_ble_eq_true rfl⟩ dX1_findFault_35 ?_
          rintro _ _ ⟨rfl, rfl⟩
          show G E X 5 [pd E a V] 0 0 [(4, .int (V.1 (Int32.toNatClampNeg s.2.2))), (0, .ref (a 0)), (1, .int s.1), (2, .int s.2.1), (3, .int s.2.2)] [.int o14] 38
          refine g_if_ne (tgt := 56) C dX1_findFault_38 (by decide) (fun c16 => ?_) (fun c16 => ?_)
          · have hf := (f_if hf).2 c16
            refine g_sub (lv2 := [(0, .ref (a 0)), (1, .int s.1), (2, .int s.2.1), (3, .int s.2.2), (4, .int (V.1 (Int32.toNatClampNeg s.2.2)))]) [1, 2, 3, 4, 0] rfl ?_
            exact h56 K6 hK6 (s.1, s.2.1, s.2.2, (V.1 (Int32.toNatClampNeg s.2.2))) hf
          · have hf := (f_if hf).1 c16
            refine g_goto (tgt := 54) C dX1_findFault_41 (by decide) ?_
            refine g_sub (lv2 := [(3, .int s.2.2)]) [4] rfl ?_
            exact h54 s.2.2 hf
  unfold f_X1_findFault at hf
  refine g_iconst (v := (1 : Int32)) C dX1_findFault_0 (by decide) ?_
  refine g_istore_n (lv2 := [(1, .int (1 : Int32)), (0, .ref (a 0))]) C dX1_findFault_1 rfl (by decide) rfl ?_
  refine g_iconst (v := (0 : Int32)) C dX1_findFault_2 (by decide) ?_
  refine g_istore_n (lv2 := [(2, .int (0 : Int32)), (1, .int (1 : Int32)), (0, .ref (a 0))]) C dX1_findFault_3 rfl (by decide) rfl ?_
  refine g_iconst (v := (0 : Int32)) C dX1_findFault_4 (by decide) ?_
  refine g_istore_n (lv2 := [(3, .int (0 : Int32)), (2, .int (0 : Int32)), (1, .int (1 : Int32)), (0, .ref (a 0))]) C dX1_findFault_5 rfl (by decide) rfl ?_
  refine g_sub (lv2 := [(0, .ref (a 0)), (1, .int (1 : Int32)), (2, .int (0 : Int32)), (3, .int (0 : Int32))]) [3, 2, 1, 0] rfl ?_
  exact h6 N ((1 : Int32), (0 : Int32), (0 : Int32)) hf
