def b_X6_set_25 (N : Nat) (V : Md) (p0 : Int32) (p1 : Int32) (s : Unit) : Option (Int32 × Md) := some ((-2 : Int32), V)
def f_X6_set (N : Nat) (V : Md) (p0 : Int32) (p1 : Int32) : Option (Int32 × Md) := ((f_X6_in p0 (0 : Int32) (6 : Int32)).bind fun o1 => (if o1 = 0 then b_X6_set_25 N V p0 p1 () else ((f_X6_leastOf p0).bind fun o4 => ((f_X6_mostOf p0).bind fun o6 => ((f_X6_in p1 o4 o6).bind fun o8 => (if o8 = 0 then b_X6_set_25 N V p0 p1 () else ((f_X6_record N V).bind fun o11 => (ix p0 173 (ix p0 173 (some ((o11.1 (Int32.toNatClampNeg p0)), ((upd o11.1 (Int32.toNatClampNeg p0) p1), o11.2.1, o11.2.2.1, o11.2.2.2.1, o11.2.2.2.2.1, o11.2.2.2.2.2.1, o11.2.2.2.2.2.2.1, o11.2.2.2.2.2.2.2.1, o11.2.2.2.2.2.2.2.2.1, o11.2.2.2.2.2.2.2.2.2.1, o11.2.2.2.2.2.2.2.2.2.2.1, o11.2.2.2.2.2.2.2.2.2.2.2.1, o11.2.2.2.2.2.2.2.2.2.2.2.2.1, o11.2.2.2.2.2.2.2.2.2.2.2.2.2))))))))))))
abbrev rm_X6_set : Room := { frames := 1, cells := 0, slots := 0, locals := 22 }
set_option maxRecDepth 100000 in
theorem k_X6_set : CF yX6_set cX6_set 4 (some .int) 2 := ⟨mt_689, mt_690, mt_13, mt_691, ⟨rfl, by decide +kernel, by decide +kernel, by decide +kernel⟩⟩
set_option maxHeartbeats 4000000 in
set_option maxRecDepth 100000 in
theorem c_X6_set {E : Ev} {a : Nat → Nat} {V : Md} {p0 : Int32} {p1 : Int32} {N : Nat} {o : Int32 × Md} (hf : f_X6_set N V p0 p1 = some o) : ∀ l, MG l yX6_set cX6_set 4 (some .int) rm_X6_set E [.ref (a 0), .int p0, .int p1] [md E a V] (fun v Y => v = some (.int o.1) ∧ Y = [md E a o.2]) := by
  refine MG.mk (own := RX6) (lv0 := [(0, .ref (a 0)), (1, .int p0), (2, .int p1)]) (by decide) rfl (Nat.le_of_ble_eq_true rfl) rfl (fun X C K I => ?_)
  have h25 : ∀ s : Unit, b_X6_set_25 N V p0 p1 s = some o → G E X 4 [md E a V] 0 0 [] [] 25 := by
    intro s hf
    unfold b_X6_set_25 at hf
    refine g_bipush (v := (-2 : Int32)) C dX6_set_25 (by decide) ?_
    obtain rfl := Option.some.inj hf
    exact g_iret C K dX6_set_27 (Nat.le_of_ble_eq_true rfl) (Nat.le_of_ble_eq_true rfl) ⟨rfl, rfl⟩
  unfold f_X6_set at hf
  refine g_iload_n C dX6_set_0 rfl 1 rfl ?_
  refine g_iconst (v := (0 : Int32)) C dX6_set_1 (by decide) ?_
  refine g_bipush (v := (6 : Int32)) C dX6_set_2 (by decide) ?_
  obtain ⟨o1, h2, hf⟩ := bind_s hf
  refine g_callS (As := [.int p0, .int (0 : Int32), .int (6 : Int32)]) (rest := []) C k_X6_in (fun l => c_X6_in (E := E) h2 l) mt_640 [] rfl (by decide) rfl (Nat.le_of_ble_eq_true rfl) ⟨Nat.le_of_ble_eq_true rfl, Nat.le_of_ble_eq_true rfl, Nat.le_of_ble_eq_true rfl, Nat.le_of_ble_eq_true rfl⟩ dX6_set_4 ?_
  rintro _ _ ⟨rfl, rfl⟩
  show G E X 4 [md E a V] 0 0 [(0, .ref (a 0)), (1, .int p0), (2, .int p1)] [.int o1] 7
  refine g_if_eq (tgt := 25) C dX6_set_7 (by decide) (fun c3 => ?_) (fun c3 => ?_)
  · have hf := (f_if hf).1 c3
    refine g_sub (lv2 := []) [] rfl ?_
    exact h25 () hf
  · have hf := (f_if hf).2 c3
    refine g_iload_n C dX6_set_10 rfl 2 rfl ?_
    refine g_iload_n C dX6_set_11 rfl 1 rfl ?_
    obtain ⟨o4, h5, hf⟩ := bind_s hf
    refine g_callS (As := [.int p0]) (rest := [.int p1]) C k_X6_leastOf (fun l => c_X6_leastOf (E := E) h5 l) mt_692 [] rfl (by decide) rfl (Nat.le_of_ble_eq_true rfl) ⟨Nat.le_of_ble_eq_true rfl, Nat.le_of_ble_eq_true rfl, Nat.le_of_ble_eq_true rfl, Nat.le_of_ble_eq_true rfl⟩ dX6_set_12 ?_
    rintro _ _ ⟨rfl, rfl⟩
    show G E X 4 [md E a V] 0 0 [(0, .ref (a 0)), (1, .int p0), (2, .int p1)] [.int o4, .int p1] 15
    refine g_iload_n C dX6_set_15 rfl 1 rfl ?_
    obtain ⟨o6, h7, hf⟩ := bind_s hf
    refine g_callS (As := [.int p0]) (rest := [.int o4, .int p1]) C k_X6_mostOf (fun l => c_X6_mostOf (E := E) h7 l) mt_695 [] rfl (by decide) rfl (Nat.le_of_ble_eq_true rfl) ⟨Nat.le_of_ble_eq_true rfl, Nat.le_of_ble_eq_true rfl, Nat.le_of_ble_eq_true rfl, Nat.le_of_ble_eq_true rfl⟩ dX6_set_16 ?_
    rintro _ _ ⟨rfl, rfl⟩
    show G E X 4 [md E a V] 0 0 [(0, .ref (a 0)), (1, .int p0), (2, .int p1)] [.int o6, .int o4, .int p1] 19
    obtain ⟨o8, h9, hf⟩ := bind_s hf
    refine g_callS (As := [.int p1, .int o4, .int o6]) (rest := []) C k_X6_in (fun l => c_X6_in (E := E) h9 l) mt_640 [] rfl (by decide) rfl (Nat.le_of_ble_eq_true rfl) ⟨Nat.le_of_ble_eq_true rfl, Nat.le_of_ble_eq_true rfl, Nat.le_of_ble_eq_true rfl, Nat.le_of_ble_eq_true rfl⟩ dX6_set_19 ?_
    rintro _ _ ⟨rfl, rfl⟩
    show G E X 4 [md E a V] 0 0 [(0, .ref (a 0)), (1, .int p0), (2, .int p1)] [.int o8] 22
    refine g_if_ne (tgt := 28) C dX6_set_22 (by decide) (fun c10 => ?_) (fun c10 => ?_)
    · have hf := (f_if hf).2 c10
      refine g_aload_n C dX6_set_28 rfl 0 rfl ?_
      obtain ⟨o11, h12, hf⟩ := bind_s hf
      refine g_callV (As := []) (rest := []) C k_X6_record (fun l => c_X6_record (E := E) (a := a) (V := V) h12 l) mt_647 [0] rfl (by decide) ⟨_, _, _, _, List.mem_flatten.mpr ⟨_, List.mem_of_getElem? (i := 0) rfl, List.mem_of_getElem? (i := 0) rfl⟩, rfl⟩ rfl (Nat.le_of_ble_eq_true rfl) ⟨Nat.le_of_ble_eq_true rfl, Nat.le_of_ble_eq_true rfl, Nat.le_of_ble_eq_true rfl, Nat.le_of_ble_eq_true rfl⟩ dX6_set_29 ?_
      rintro _ _ ⟨rfl, rfl⟩
      show G E X 4 [md E a o11] 0 0 [(0, .ref (a 0)), (1, .int p0), (2, .int p1)] [] 32
      refine g_aload_n C dX6_set_32 rfl 0 rfl ?_
      refine g_get (Cl := RX6) (T := TX6) (N := 14) C mi_X6 0 rfl (List.mem_of_getElem? (i := 0) rfl) rfl 0 (by decide) mt_589 rfl rfl dX6_set_33 ?_
      refine g_iload_n C dX6_set_36 rfl 1 rfl ?_
      obtain ⟨i13, hf⟩ := ix_s hf
      refine g_iald C 0 rfl (List.mem_of_getElem? (i := 1) rfl) i13 dX6_set_37 ?_
      refine g_istore_n (lv2 := [(3, .int (o11.1 (Int32.toNatClampNeg p0))), (0, .ref (a 0)), (1, .int p0), (2, .int p1)]) C dX6_set_38 rfl (by decide) rfl ?_
      refine g_aload_n C dX6_set_39 rfl 1 rfl ?_
      refine g_get (Cl := RX6) (T := TX6) (N := 14) C mi_X6 0 rfl (List.mem_of_getElem? (i := 0) rfl) rfl 0 (by decide) mt_589 rfl rfl dX6_set_40 ?_
      refine g_iload_n C dX6_set_43 rfl 2 rfl ?_
      refine g_iload_n C dX6_set_44 rfl 3 rfl ?_
      obtain ⟨i14, hf⟩ := ix_s hf
      refine g_iast (Y2 := [md E a ((upd o11.1 (Int32.toNatClampNeg p0) p1), o11.2.1, o11.2.2.1, o11.2.2.2.1, o11.2.2.2.2.1, o11.2.2.2.2.2.1, o11.2.2.2.2.2.2.1, o11.2.2.2.2.2.2.2.1, o11.2.2.2.2.2.2.2.2.1, o11.2.2.2.2.2.2.2.2.2.1, o11.2.2.2.2.2.2.2.2.2.2.1, o11.2.2.2.2.2.2.2.2.2.2.2.1, o11.2.2.2.2.2.2.2.2.2.2.2.2.1, o11.2.2.2.2.2.2.2.2.2.2.2.2.2)]) C 0 1 rfl rfl i14 dX6_set_45 rfl ?_
      refine g_iload_n C dX6_set_46 rfl 0 rfl ?_
      obtain rfl := Option.some.inj hf
      exact g_iret C K dX6_set_47 (Nat.le_of_ble_eq_true rfl) (Nat.le_of_ble_eq_true rfl) ⟨rfl, rfl⟩
    · have hf := (f_if hf).1 c10
      refine g_sub (lv2 := []) [] rfl ?_
      exact h25 () hf
def f_X6_come (N : Nat) (V : Md) (p0 : Int32) : Option (Int32 × Md) := ((f_X6_in p0 (1 : Int32) (200 : Int32)).bind fun o1 => (if o1 = 0 then some ((-2 : Int32), V) else (if (V.1 (Int32.toNatClampNeg (10 : Int32))) = (20 : Int32) then some ((-4 : Int32), V) else (if (V.1 (Int32.toNatClampNeg (9 : Int32))) = 0 then ((f_X6_record N V).bind fun o6 => (ix ((83 : Int32) + ((3 : Int32) * (o6.1 (Int32.toNatClampNeg (10 : Int32))))) 173 (ix (((83 : Int32) + ((3 : Int32) * (o6.1 (Int32.toNatClampNeg (10 : Int32))))) + (1 : Int32)) 173 (ix (((83 : Int32) + ((3 : Int32) * (o6.1 (Int32.toNatClampNeg (10 : Int32))))) + (2 : Int32)) 173 (some (((upd (upd (upd (upd o6.1 (Int32.toNatClampNeg ((83 : Int32) + ((3 : Int32) * (o6.1 (Int32.toNatClampNeg (10 : Int32)))))) p0) (Int32.toNatClampNeg (((83 : Int32) + ((3 : Int32) * (o6.1 (Int32.toNatClampNeg (10 : Int32))))) + (1 : Int32))) (0 : Int32)) (Int32.toNatClampNeg (((83 : Int32) + ((3 : Int32) * (o6.1 (Int32.toNatClampNeg (10 : Int32))))) + (2 : Int32))) ((upd (upd o6.1 (Int32.toNatClampNeg ((83 : Int32) + ((3 : Int32) * (o6.1 (Int32.toNatClampNeg (10 : Int32)))))) p0) (Int32.toNatClampNeg (((83 : Int32) + ((3 : Int32) * (o6.1 (Int32.toNatClampNeg (10 : Int32))))) + (1 : Int32))) (0 : Int32)) (Int32.toNatClampNeg (7 : Int32)))) (Int32.toNatClampNeg (10 : Int32)) (((upd (upd (upd o6.1 (Int32.toNatClampNeg ((83 : Int32) + ((3 : Int32) * (o6.1 (Int32.toNatClampNeg (10 : Int32)))))) p0) (Int32.toNatClampNeg (((83 : Int32) + ((3 : Int32) * (o6.1 (Int32.toNatClampNeg (10 : Int32))))) + (1 : Int32))) (0 : Int32)) (Int32.toNatClampNeg (((83 : Int32) + ((3 : Int32) * (o6.1 (Int32.toNatClampNeg (10 : Int32))))) + (2 : Int32))) ((upd (upd o6.1 (Int32.toNatClampNeg ((83 : Int32) + ((3 : Int32) * (o6.1 (Int32.toNatClampNeg (10 : Int32)))))) p0) (Int32.toNatClampNeg (((83 : Int32) + ((3 : Int32) * (o6.1 (Int32.toNatClampNeg (10 : Int32))))) + (1 : Int32))) (0 : Int32)) (Int32.toNatClampNeg (7 : Int32)))) (Int32.toNatClampNeg (10 : Int32))) + (1 : Int32))) (Int32.toNatClampNeg (10 : Int32))), ((upd (upd (upd (upd o6.1 (Int32.toNatClampNeg ((83 : Int32) + ((3 : Int32) * (o6.1 (Int32.toNatClampNeg (10 : Int32)))))) p0) (Int32.toNatClampNeg (((83 : Int32) + ((3 : Int32) * (o6.1 (Int32.toNatClampNeg (10 : Int32))))) + (1 : Int32))) (0 : Int32)) (Int32.toNatClampNeg (((83 : Int32) + ((3 : Int32) * (o6.1 (Int32.toNatClampNeg (10 : Int32))))) + (2 : Int32))) ((upd (upd o6.1 (Int32.toNatClampNeg ((83 : Int32) + ((3 : Int32) * (o6.1 (Int32.toNatClampNeg (10 : Int32)))))) p0) (Int32.toNatClampNeg (((83 : Int32) + ((3 : Int32) * (o6.1 (Int32.toNatClampNeg (10 : Int32))))) + (1 : Int32))) (0 : Int32)) (Int32.toNatClampNeg (7 : Int32)))) (Int32.toNatClampNeg (10 : Int32)) (((upd (upd (upd o6.1 (Int32.toNatClampNeg ((83 : Int32) + ((3 : Int32) * (o6.1 (Int32.toNatClampNeg (10 : Int32)))))) p0) (Int32.toNatClampNeg (((83 : Int32) + ((3 : Int32) * (o6.1 (Int32.toNatClampNeg (10 : Int32))))) + (1 : Int32))) (0 : Int32)) (Int32.toNatClampNeg (((83 : Int32) + ((3 : Int32) * (o6.1 (Int32.toNatClampNeg (10 : Int32))))) + (2 : Int32))) ((upd (upd o6.1 (Int32.toNatClampNeg ((83 : Int32) + ((3 : Int32) * (o6.1 (Int32.toNatClampNeg (10 : Int32)))))) p0) (Int32.toNatClampNeg (((83 : Int32) + ((3 : Int32) * (o6.1 (Int32.toNatClampNeg (10 : Int32))))) + (1 : Int32))) (0 : Int32)) (Int32.toNatClampNeg (7 : Int32)))) (Int32.toNatClampNeg (10 : Int32))) + (1 : Int32))), o6.2.1, o6.2.2.1, o6.2.2.2.1, o6.2.2.2.2.1, o6.2.2.2.2.2.1, o6.2.2.2.2.2.2.1, o6.2.2.2.2.2.2.2.1, o6.2.2.2.2.2.2.2.2.1, o6.2.2.2.2.2.2.2.2.2.1, o6.2.2.2.2.2.2.2.2.2.2.1, o6.2.2.2.2.2.2.2.2.2.2.2.1, o6.2.2.2.2.2.2.2.2.2.2.2.2.1, o6.2.2.2.2.2.2.2.2.2.2.2.2.2))))))) else some ((-5 : Int32), V)))))
abbrev rm_X6_come : Room := { frames := 1, cells := 0, slots := 0, locals := 22 }
set_option maxRecDepth 100000 in
theorem k_X6_come : CF yX6_come cX6_come 3 (some .int) 1 := ⟨mt_699, mt_700, mt_13, mt_701, ⟨rfl, by decide +kernel, by decide +kernel, by decide +kernel⟩⟩
set_option maxHeartbeats 4000000 in
set_option maxRecDepth 100000 in
theorem c_X6_come {E : Ev} {a : Nat → Nat} {V : Md} {p0 : Int32} {N : Nat} {o : Int32 × Md} (hf : f_X6_come N V p0 = some o) : ∀ l, MG l yX6_come cX6_come 3 (some .int) rm_X6_come E [.ref (a 0), .int p0] [md E a V] (fun v Y => v = some (.int o.1) ∧ Y = [md E a o.2]) := by
  refine MG.mk (own := RX6) (lv0 := [(0, .ref (a 0)), (1, .int p0)]) (by decide) rfl (Nat.le_of_ble_eq_true rfl) rfl (fun X C K I => ?_)
  unfold f_X6_come at hf
  refine g_iload_n C dX6_come_0 rfl 1 rfl ?_
  refine g_iconst (v := (1 : Int32)) C dX6_come_1 (by decide) ?_
  refine g_sipush (v := (200 : Int32)) C dX6_come_2 (by decide) ?_
  obtain ⟨o1, h2, hf⟩ := bind_s hf
  refine g_callS (As := [.int p0, .int (1 : Int32), .int (200 : Int32)]) (rest := []) C k_X6_in (fun l => c_X6_in (E := E) h2 l) mt_640 [] rfl (by decide) rfl (Nat.le_of_ble_eq_true rfl) ⟨Nat.le_of_ble_eq_true rfl, Nat.le_of_ble_eq_true rfl, Nat.le_of_ble_eq_true rfl, Nat.le_of_ble_eq_true rfl⟩ dX6_come_5 ?_
  rintro _ _ ⟨rfl, rfl⟩
  show G E X 3 [md E a V] 0 0 [(0, .ref (a 0)), (1, .int p0)] [.int o1] 8
  refine g_if_ne (tgt := 14) C dX6_come_8 (by decide) (fun c3 => ?_) (fun c3 => ?_)
  · have hf := (f_if hf).2 c3
    refine g_aload_n C dX6_come_14 rfl 0 rfl ?_
    refine g_get (Cl := RX6) (T := TX6) (N := 14) C mi_X6 0 rfl (List.mem_of_getElem? (i := 0) rfl) rfl 0 (by decide) mt_589 rfl rfl dX6_come_15 ?_
    refine g_bipush (v := (10 : Int32)) C dX6_come_18 (by decide) ?_
    refine g_iald C 0 rfl (List.mem_of_getElem? (i := 1) rfl) (by show ¬ (_ ∨ _); decide) dX6_come_20 ?_
    refine g_bipush (v := (20 : Int32)) C dX6_come_21 (by decide) ?_
    refine g_icmp_ne (tgt := 29) C dX6_come_23 (by decide) (fun c4 => ?_) (fun c4 => ?_)
    · have hf := (f_if hf).2 c4
      refine g_aload_n C dX6_come_29 rfl 0 rfl ?_
      refine g_get (Cl := RX6) (T := TX6) (N := 14) C mi_X6 0 rfl (List.mem_of_getElem? (i := 0) rfl) rfl 0 (by decide) mt_589 rfl rfl dX6_come_30 ?_
      refine g_bipush (v := (9 : Int32)) C dX6_come_33 (by decide) ?_
      refine g_iald C 0 rfl (List.mem_of_getElem? (i := 1) rfl) (by show ¬ (_ ∨ _); decide) dX6_come_35 ?_
      refine g_if_eq (tgt := 42) C dX6_come_36 (by decide) (fun c5 => ?_) (fun c5 => ?_)
      · have hf := (f_if hf).1 c5
        refine g_aload_n C dX6_come_42 rfl 0 rfl ?_
        obtain ⟨o6, h7, hf⟩ := bind_s hf
        refine g_callV (As := []) (rest := []) C k_X6_record (fun l => c_X6_record (E := E) (a := a) (V := V) h7 l) mt_647 [0] rfl (by decide) ⟨_, _, _, _, List.mem_flatten.mpr ⟨_, List.mem_of_getElem? (i := 0) rfl, List.mem_of_getElem? (i := 0) rfl⟩, rfl⟩ rfl (Nat.le_of_ble_eq_true rfl) ⟨Nat.le_of_ble_eq_true rfl, Nat.le_of_ble_eq_true rfl, Nat.le_of_ble_eq_true rfl, Nat.le_of_ble_eq_true rfl⟩ dX6_come_43 ?_
        rintro _ _ ⟨rfl, rfl⟩
        show G E X 3 [md E a o6] 0 0 [(0, .ref (a 0)), (1, .int p0)] [] 46
        refine g_bipush (v := (83 : Int32)) C dX6_come_46 (by decide) ?_
        refine g_iconst (v := (3 : Int32)) C dX6_come_48 (by decide) ?_
        refine g_aload_n C dX6_come_49 rfl 0 rfl ?_
        refine g_get (Cl := RX6) (T := TX6) (N := 14) C mi_X6 0 rfl (List.mem_of_getElem? (i := 0) rfl) rfl 0 (by decide) mt_589 rfl rfl dX6_come_50 ?_
        refine g_bipush (v := (10 : Int32)) C dX6_come_53 (by decide) ?_
        refine g_iald C 0 rfl (List.mem_of_getElem? (i := 1) rfl) (by show ¬ (_ ∨ _); decide) dX6_come_55 ?_
        refine g_imul C dX6_come_56 ?_
        refine g_iadd C dX6_come_57 ?_
        refine g_istore_n (lv2 := [(2, .int ((83 : Int32) + ((3 : Int32) * (o6.1 (Int32.toNatClampNeg (10 : Int32)))))), (0, .ref (a 0)), (1, .int p0)]) C dX6_come_58 rfl (by decide) rfl ?_
        refine g_aload_n C dX6_come_59 rfl 1 rfl ?_
        refine g_get (Cl := RX6) (T := TX6) (N := 14) C mi_X6 0 rfl (List.mem_of_getElem? (i := 0) rfl) rfl 0 (by decide) mt_589 rfl rfl dX6_come_60 ?_
        refine g_iload_n C dX6_come_63 rfl 0 rfl ?_
        refine g_iload_n C dX6_come_64 rfl 2 rfl ?_
        obtain ⟨i8, hf⟩ := ix_s hf
        refine g_iast (Y2 := [md E a ((upd o6.1 (Int32.toNatClampNeg ((83 : Int32) + ((3 : Int32) * (o6.1 (Int32.toNatClampNeg (10 : Int32)))))) p0), o6.2.1, o6.2.2.1, o6.2.2.2.1, o6.2.2.2.2.1, o6.2.2.2.2.2.1, o6.2.2.2.2.2.2.1, o6.2.2.2.2.2.2.2.1, o6.2.2.2.2.2.2.2.2.1, o6.2.2.2.2.2.2.2.2.2.1, o6.2.2.2.2.2.2.2.2.2.2.1, o6.2.2.2.2.2.2.2.2.2.2.2.1, o6.2.2.2.2.2.2.2.2.2.2.2.2.1, o6.2.2.2.2.2.2.2.2.2.2.2.2.2)]) C 0 1 rfl rfl i8 dX6_come_65 rfl ?_
        refine g_aload_n C dX6_come_66 rfl 1 rfl ?_
        refine g_get (Cl := RX6) (T := TX6) (N := 14) C mi_X6 0 rfl (List.mem_of_getElem? (i := 0) rfl) rfl 0 (by decide) mt_589 rfl rfl dX6_come_67 ?_
        refine g_iload_n C dX6_come_70 rfl 0 rfl ?_
        refine g_iconst (v := (1 : Int32)) C dX6_come_71 (by decide) ?_
        refine g_iadd C dX6_come_72 ?_
        refine g_iconst (v := (0 : Int32)) C dX6_come_73 (by decide) ?_
        obtain ⟨i9, hf⟩ := ix_s hf
        refine g_iast (Y2 := [md E a ((upd (upd o6.1 (Int32.toNatClampNeg ((83 : Int32) + ((3 : Int32) * (o6.1 (Int32.toNatClampNeg (10 : Int32)))))) p0) (Int32.toNatClampNeg (((83 : Int32) + ((3 : Int32) * (o6.1 (Int32.toNatClampNeg (10 : Int32))))) + (1 : Int32))) (0 : Int32)), o6.2.1, o6.2.2.1, o6.2.2.2.1, o6.2.2.2.2.1, o6.2.2.2.2.2.1, o6.2.2.2.2.2.2.1, o6.2.2.2.2.2.2.2.1, o6.2.2.2.2.2.2.2.2.1, o6.2.2.2.2.2.2.2.2.2.1, o6.2.2.2.2.2.2.2.2.2.2.1, o6.2.2.2.2.2.2.2.2.2.2.2.1, o6.2.2.2.2.2.2.2.2.2.2.2.2.1, o6.2.2.2.2.2.2.2.2.2.2.2.2.2)]) C 0 1 rfl rfl i9 dX6_come_74 rfl ?_
        refine g_aload_n C dX6_come_75 rfl 1 rfl ?_
        refine g_get (Cl := RX6) (T := TX6) (N := 14) C mi_X6 0 rfl (List.mem_of_getElem? (i := 0) rfl) rfl 0 (by decide) mt_589 rfl rfl dX6_come_76 ?_
        refine g_iload_n C dX6_come_79 rfl 0 rfl ?_
        refine g_iconst (v := (2 : Int32)) C dX6_come_80 (by decide) ?_
        refine g_iadd C dX6_come_81 ?_
        refine g_aload_n C dX6_come_82 rfl 1 rfl ?_
        refine g_get (Cl := RX6) (T := TX6) (N := 14) C mi_X6 0 rfl (List.mem_of_getElem? (i := 0) rfl) rfl 0 (by decide) mt_589 rfl rfl dX6_come_83 ?_
        refine g_bipush (v := (7 : Int32)) C dX6_come_86 (by decide) ?_
        refine g_iald C 0 rfl (List.mem_of_getElem? (i := 1) rfl) (by show ¬ (_ ∨ _); decide) dX6_come_88 ?_
        obtain ⟨i10, hf⟩ := ix_s hf
        refine g_iast (Y2 := [md E a ((upd (upd (upd o6.1 (Int32.toNatClampNeg ((83 : Int32) + ((3 : Int32) * (o6.1 (Int32.toNatClampNeg (10 : Int32)))))) p0) (Int32.toNatClampNeg (((83 : Int32) + ((3 : Int32) * (o6.1 (Int32.toNatClampNeg (10 : Int32))))) + (1 : Int32))) (0 : Int32)) (Int32.toNatClampNeg (((83 : Int32) + ((3 : Int32) * (o6.1 (Int32.toNatClampNeg (10 : Int32))))) + (2 : Int32))) ((upd (upd o6.1 (Int32.toNatClampNeg ((83 : Int32) + ((3 : Int32) * (o6.1 (Int32.toNatClampNeg (10 : Int32)))))) p0) (Int32.toNatClampNeg (((83 : Int32) + ((3 : Int32) * (o6.1 (Int32.toNatClampNeg (10 : Int32))))) + (1 : Int32))) (0 : Int32)) (Int32.toNatClampNeg (7 : Int32)))), o6.2.1, o6.2.2.1, o6.2.2.2.1, o6.2.2.2.2.1, o6.2.2.2.2.2.1, o6.2.2.2.2.2.2.1, o6.2.2.2.2.2.2.2.1, o6.2.2.2.2.2.2.2.2.1, o6.2.2.2.2.2.2.2.2.2.1, o6.2.2.2.2.2.2.2.2.2.2.1, o6.2.2.2.2.2.2.2.2.2.2.2.1, o6.2.2.2.2.2.2.2.2.2.2.2.2.1, o6.2.2.2.2.2.2.2.2.2.2.2.2.2)]) C 0 1 rfl rfl i10 dX6_come_89 rfl ?_
        refine g_aload_n C dX6_come_90 rfl 1 rfl ?_
        refine g_get (Cl := RX6) (T := TX6) (N := 14) C mi_X6 0 rfl (List.mem_of_getElem? (i := 0) rfl) rfl 0 (by decide) mt_589 rfl rfl dX6_come_91 ?_
        refine g_bipush (v := (10 : Int32)) C dX6_come_94 (by decide) ?_
        refine g_dup2 C dX6_come_96 rfl rfl ?_
        refine g_iald C 0 rfl (List.mem_of_getElem? (i := 1) rfl) (by show ¬ (_ ∨ _); decide) dX6_come_97 ?_
        refine g_iconst (v := (1 : Int32)) C dX6_come_98 (by decide) ?_
        refine g_iadd C dX6_come_99 ?_
        refine g_iast (Y2 := [md E a ((upd (upd (upd (upd o6.1 (Int32.toNatClampNeg ((83 : Int32) + ((3 : Int32) * (o6.1 (Int32.toNatClampNeg (10 : Int32)))))) p0) (Int32.toNatClampNeg (((83 : Int32) + ((3 : Int32) * (o6.1 (Int32.toNatClampNeg (10 : Int32))))) + (1 : Int32))) (0 : Int32)) (Int32.toNatClampNeg (((83 : Int32) + ((3 : Int32) * (o6.1 (Int32.toNatClampNeg (10 : Int32))))) + (2 : Int32))) ((upd (upd o6.1 (Int32.toNatClampNeg ((83 : Int32) + ((3 : Int32) * (o6.1 (Int32.toNatClampNeg (10 : Int32)))))) p0) (Int32.toNatClampNeg (((83 : Int32) + ((3 : Int32) * (o6.1 (Int32.toNatClampNeg (10 : Int32))))) + (1 : Int32))) (0 : Int32)) (Int32.toNatClampNeg (7 : Int32)))) (Int32.toNatClampNeg (10 : Int32)) (((upd (upd (upd o6.1 (Int32.toNatClampNeg ((83 : Int32) + ((3 : Int32) * (o6.1 (Int32.toNatClampNeg (10 : Int32)))))) p0) (Int32.toNatClampNeg (((83 : Int32) + ((3 : Int32) * (o6.1 (Int32.toNatClampNeg (10 : Int32))))) + (1 : Int32))) (0 : Int32)) (Int32.toNatClampNeg (((83 : Int32) + ((3 : Int32) * (o6.1 (Int32.toNatClampNeg (10 : Int32))))) + (2 : Int32))) ((upd (upd o6.1 (Int32.toNatClampNeg ((83 : Int32) + ((3 : Int32) * (o6.1 (Int32.toNatClampNeg (10 : Int32)))))) p0) (Int32.toNatClampNeg (((83 : Int32) + ((3 : Int32) * (o6.1 (Int32.toNatClampNeg (10 : Int32))))) + (1 : Int32))) (0 : Int32)) (Int32.toNatClampNeg (7 : Int32)))) (Int32.toNatClampNeg (10 : Int32))) + (1 : Int32))), o6.2.1, o6.2.2.1, o6.2.2.2.1, o6.2.2.2.2.1, o6.2.2.2.2.2.1, o6.2.2.2.2.2.2.1, o6.2.2.2.2.2.2.2.1, o6.2.2.2.2.2.2.2.2.1, o6.2.2.2.2.2.2.2.2.2.1, o6.2.2.2.2.2.2.2.2.2.2.1, o6.2.2.2.2.2.2.2.2.2.2.2.1, o6.2.2.2.2.2.2.2.2.2.2.2.2.1, o6.2.2.2.2.2.2.2.2.2.2.2.2.2)]) C 0 1 rfl rfl (by show ¬ (_ ∨ _); decide) dX6_come_100 rfl ?_
        refine g_aload_n C dX6_come_101 rfl 1 rfl ?_
        refine g_get (Cl := RX6) (T := TX6) (N := 14) C mi_X6 0 rfl (List.mem_of_getElem? (i := 0) rfl) rfl 0 (by decide) mt_589 rfl rfl dX6_come_102 ?_
        refine g_bipush (v := (10 : Int32)) C dX6_come_105 (by decide) ?_
        refine g_iald C 0 rfl (List.mem_of_getElem? (i := 1) rfl) (by show ¬ (_ ∨ _); decide) dX6_come_107 ?_
        obtain rfl := Option.some.inj hf
        exact g_iret C K dX6_come_108 (Nat.le_of_ble_eq_true rfl) (Nat.le_of_ble_eq_true rfl) ⟨rfl, rfl⟩
      · have hf := (f_if hf).2 c5
        refine g_bipush (v := (-5 : Int32)) C dX6_come_39 (by decide) ?_
        obtain rfl := Option.some.inj hf
        exact g_iret C K dX6_come_41 (Nat.le_of_ble_eq_true rfl) (Nat.le_of_ble_eq_true rfl) ⟨rfl, rfl⟩
    · have hf := (f_if hf).1 c4
      refine g_bipush (v := (-4 : Int32)) C dX6_come_26 (by decide) ?_
      obtain rfl := Option.some.inj hf
      exact g_iret C K dX6_come_28 (Nat.le_of_ble_eq_true rfl) (Nat.le_of_ble_eq_true rfl) ⟨rfl, rfl⟩
  · have hf := (f_if hf).1 c3
    refine g_bipush (v := (-2 : Int32)) C dX6_come_11 (by decide) ?_
    obtain rfl := Option.some.inj hf
    exact g_iret C K dX6_come_13 (Nat.le_of_ble_eq_true rfl) (Nat.le_of_ble_eq_true rfl) ⟨rfl, rfl⟩
def b_X6_sense_16 (N : Nat) (V : Md) (p0 : Int32) (p1 : Int32) (p2 : Int32) (s : Unit) : Option (Int32 × Md) := some ((-1 : Int32), V)
def f_X6_sense (N : Nat) (V : Md) (p0 : Int32) (p1 : Int32) (p2 : Int32) : Option (Int32 × Md) := ((f_X6_isSpot p0).bind fun o1 => (if o1 = 0 then b_X6_sense_16 N V p0 p1 p2 () else ((f_X6_in p1 (0 : Int32) (1 : Int32)).bind fun o4 => (if o4 = 0 then b_X6_sense_16 N V p0 p1 p2 () else ((f_X6_in p2 (0 : Int32) (1 : Int32)).bind fun o7 => (if o7 = 0 then some ((-2 : Int32), V) else ((f_X6_record N V).bind fun o10 => some ((((o10.1 (Int32.toNatClampNeg (11 : Int32))) >>> ((((2 : Int32) * p0) + p1) &&& 31)) &&& (1 : Int32)), ((upd o10.1 (Int32.toNatClampNeg (11 : Int32)) ((o10.1 (Int32.toNatClampNeg (11 : Int32))) + ((p2 - (((o10.1 (Int32.toNatClampNeg (11 : Int32))) >>> ((((2 : Int32) * p0) + p1) &&& 31)) &&& (1 : Int32))) <<< ((((2 : Int32) * p0) + p1) &&& 31)))), o10.2.1, o10.2.2.1, o10.2.2.2.1, o10.2.2.2.2.1, o10.2.2.2.2.2.1, o10.2.2.2.2.2.2.1, o10.2.2.2.2.2.2.2.1, o10.2.2.2.2.2.2.2.2.1, o10.2.2.2.2.2.2.2.2.2.1, o10.2.2.2.2.2.2.2.2.2.2.1, o10.2.2.2.2.2.2.2.2.2.2.2.1, o10.2.2.2.2.2.2.2.2.2.2.2.2.1, o10.2.2.2.2.2.2.2.2.2.2.2.2.2)))))))))
abbrev rm_X6_sense : Room := { frames := 2, cells := 0, slots := 0, locals := 42 }
set_option maxRecDepth 100000 in
theorem k_X6_sense : CF yX6_sense cX6_sense 6 (some .int) 3 := ⟨mt_703, mt_704, mt_13, mt_705, ⟨rfl, by decide +kernel, by decide +kernel, by decide +kernel⟩⟩
set_option maxHeartbeats 4000000 in
set_option maxRecDepth 100000 in
theorem c_X6_sense {E : Ev} {a : Nat → Nat} {V : Md} {p0 : Int32} {p1 : Int32} {p2 : Int32} {N : Nat} {o : Int32 × Md} (hf : f_X6_sense N V p0 p1 p2 = some o) : ∀ l, MG l yX6_sense cX6_sense 6 (some .int) rm_X6_sense E [.ref (a 0), .int p0, .int p1, .int p2] [md E a V] (fun v Y => v = some (.int o.1) ∧ Y = [md E a o.2]) := by
  refine MG.mk (own := RX6) (lv0 := [(0, .ref (a 0)), (1, .int p0), (2, .int p1), (3, .int p2)]) (by decide) rfl (Nat.le_of_ble_eq_true rfl) rfl (fun X C K I => ?_)
  have h16 : ∀ s : Unit, b_X6_sense_16 N V p0 p1 p2 s = some o → G E X 6 [md E a V] 0 0 [] [] 16 := by
    intro s hf
    unfold b_X6_sense_16 at hf
    refine g_iconst (v := (-1 : Int32)) C dX6_sense_16 ofI_m1 ?_
    obtain rfl := Option.some.inj hf
    exact g_iret C K dX6_sense_17 (Nat.le_of_ble_eq_true rfl) (Nat.le_of_ble_eq_true rfl) ⟨rfl, rfl⟩
  unfold f_X6_sense at hf
  refine g_iload_n C dX6_sense_0 rfl 1 rfl ?_
  obtain ⟨o1, h2, hf⟩ := bind_s hf
  refine g_callS (As := [.int p0]) (rest := []) C k_X6_isSpot (fun l => c_X6_isSpot (E := E) h2 l) mt_706 [] rfl (by decide) rfl (Nat.le_of_ble_eq_true rfl) ⟨Nat.le_of_ble_eq_true rfl, Nat.le_of_ble_eq_true rfl, Nat.le_of_ble_eq_true rfl, Nat.le_of_ble_eq_true rfl⟩ dX6_sense_1 ?_
  rintro _ _ ⟨rfl, rfl⟩
  show G E X 6 [md E a V] 0 0 [(0, .ref (a 0)), (1, .int p0), (2, .int p1), (3, .int p2)] [.int o1] 4
  refine g_if_eq (tgt := 16) C dX6_sense_4 (by decide) (fun c3 => ?_) (fun c3 => ?_)
  · have hf := (f_if hf).1 c3
    refine g_sub (lv2 := []) [] rfl ?_
    exact h16 () hf
  · have hf := (f_if hf).2 c3
    refine g_iload_n C dX6_sense_7 rfl 2 rfl ?_
    refine g_iconst (v := (0 : Int32)) C dX6_sense_8 (by decide) ?_
    refine g_iconst (v := (1 : Int32)) C dX6_sense_9 (by decide) ?_
    obtain ⟨o4, h5, hf⟩ := bind_s hf
    refine g_callS (As := [.int p1, .int (0 : Int32), .int (1 : Int32)]) (rest := []) C k_X6_in (fun l => c_X6_in (E := E) h5 l) mt_640 [] rfl (by decide) rfl (Nat.le_of_ble_eq_true rfl) ⟨Nat.le_of_ble_eq_true rfl, Nat.le_of_ble_eq_true rfl, Nat.le_of_ble_eq_true rfl, Nat.le_of_ble_eq_true rfl⟩ dX6_sense_10 ?_
    rintro _ _ ⟨rfl, rfl⟩
    show G E X 6 [md E a V] 0 0 [(0, .ref (a 0)), (1, .int p0), (2, .int p1), (3, .int p2)] [.int o4] 13
    refine g_if_ne (tgt := 18) C dX6_sense_13 (by decide) (fun c6 => ?_) (fun c6 => ?_)
    · have hf := (f_if hf).2 c6
      refine g_iload_n C dX6_sense_18 rfl 3 rfl ?_
      refine g_iconst (v := (0 : Int32)) C dX6_sense_19 (by decide) ?_
      refine g_iconst (v := (1 : Int32)) C dX6_sense_20 (by decide) ?_
      obtain ⟨o7, h8, hf⟩ := bind_s hf
      refine g_callS (As := [.int p2, .int (0 : Int32), .int (1 : Int32)]) (rest := []) C k_X6_in (fun l => c_X6_in (E := E) h8 l) mt_640 [] rfl (by decide) rfl (Nat.le_of_ble_eq_true rfl) ⟨Nat.le_of_ble_eq_true rfl, Nat.le_of_ble_eq_true rfl, Nat.le_of_ble_eq_true rfl, Nat.le_of_ble_eq_true rfl⟩ dX6_sense_21 ?_
      rintro _ _ ⟨rfl, rfl⟩
      show G E X 6 [md E a V] 0 0 [(0, .ref (a 0)), (1, .int p0), (2, .int p1), (3, .int p2)] [.int o7] 24
      refine g_if_ne (tgt := 30) C dX6_sense_24 (by decide) (fun c9 => ?_) (fun c9 => ?_)
      · have hf := (f_if hf).2 c9
        refine g_aload_n C dX6_sense_30 rfl 0 rfl ?_
        obtain ⟨o10, h11, hf⟩ := bind_s hf
        refine g_callV (As := []) (rest := []) C k_X6_record (fun l => c_X6_record (E := E) (a := a) (V := V) h11 l) mt_647 [0] rfl (by decide) ⟨_, _, _, _, List.mem_flatten.mpr ⟨_, List.mem_of_getElem? (i := 0) rfl, List.mem_of_getElem? (i := 0) rfl⟩, rfl⟩ rfl (Nat.le_of_ble_eq_true rfl) ⟨Nat.le_of_ble_eq_true rfl, Nat.le_of_ble_eq_true rfl, Nat.le_of_ble_eq_true rfl, Nat.le_of_ble_eq_true rfl⟩ dX6_sense_31 ?_
        rintro _ _ ⟨rfl, rfl⟩
        show G E X 6 [md E a o10] 0 0 [(0, .ref (a 0)), (1, .int p0), (2, .int p1), (3, .int p2)] [] 34
        refine g_iconst (v := (2 : Int32)) C dX6_sense_34 (by decide) ?_
        refine g_iload_n C dX6_sense_35 rfl 1 rfl ?_
        refine g_imul C dX6_sense_36 ?_
        refine g_iload_n C dX6_sense_37 rfl 2 rfl ?_
        refine g_iadd C dX6_sense_38 ?_
        refine g_istore (lv2 := [(4, .int (((2 : Int32) * p0) + p1)), (0, .ref (a 0)), (1, .int p0), (2, .int p1), (3, .int p2)]) C dX6_sense_39 (by decide) rfl ?_
        refine g_aload_n C dX6_sense_41 rfl 1 rfl ?_
        refine g_get (Cl := RX6) (T := TX6) (N := 14) C mi_X6 0 rfl (List.mem_of_getElem? (i := 0) rfl) rfl 0 (by decide) mt_589 rfl rfl dX6_sense_42 ?_
        refine g_bipush (v := (11 : Int32)) C dX6_sense_45 (by decide) ?_
        refine g_iald C 0 rfl (List.mem_of_getElem? (i := 1) rfl) (by show ¬ (_ ∨ _); decide) dX6_sense_47 ?_
        refine g_iload C dX6_sense_48 0 rfl ?_
        refine g_ishr C dX6_sense_50 ?_
        refine g_iconst (v := (1 : Int32)) C dX6_sense_51 (by decide) ?_
        refine g_iand C dX6_sense_52 ?_
        refine g_istore (lv2 := [(5, .int (((o10.1 (Int32.toNatClampNeg (11 : Int32))) >>> ((((2 : Int32) * p0) + p1) &&& 31)) &&& (1 : Int32))), (4, .int (((2 : Int32) * p0) + p1)), (0, .ref (a 0)), (1, .int p0), (2, .int p1), (3, .int p2)]) C dX6_sense_53 (by decide) rfl ?_
        refine g_aload_n C dX6_sense_55 rfl 2 rfl ?_
        refine g_get (Cl := RX6) (T := TX6) (N := 14) C mi_X6 0 rfl (List.mem_of_getElem? (i := 0) rfl) rfl 0 (by decide) mt_589 rfl rfl dX6_sense_56 ?_
        refine g_bipush (v := (11 : Int32)) C dX6_sense_59 (by decide) ?_
        refine g_dup2 C dX6_sense_61 rfl rfl ?_
        refine g_iald C 0 rfl (List.mem_of_getElem? (i := 1) rfl) (by show ¬ (_ ∨ _); decide) dX6_sense_62 ?_
        refine g_iload_n C dX6_sense_63 rfl 5 rfl ?_
        refine g_iload C dX6_sense_64 0 rfl ?_
        refine g_isub C dX6_sense_66 ?_
        refine g_iload C dX6_sense_67 1 rfl ?_
        refine g_ishl C dX6_sense_69 ?_
        refine g_iadd C dX6_sense_70 ?_
        refine g_iast (Y2 := [md E a ((upd o10.1 (Int32.toNatClampNeg (11 : Int32)) ((o10.1 (Int32.toNatClampNeg (11 : Int32))) + ((p2 - (((o10.1 (Int32.toNatClampNeg (11 : Int32))) >>> ((((2 : Int32) * p0) + p1) &&& 31)) &&& (1 : Int32))) <<< ((((2 : Int32) * p0) + p1) &&& 31)))), o10.2.1, o10.2.2.1, o10.2.2.2.1, o10.2.2.2.2.1, o10.2.2.2.2.2.1, o10.2.2.2.2.2.2.1, o10.2.2.2.2.2.2.2.1, o10.2.2.2.2.2.2.2.2.1, o10.2.2.2.2.2.2.2.2.2.1, o10.2.2.2.2.2.2.2.2.2.2.1, o10.2.2.2.2.2.2.2.2.2.2.2.1, o10.2.2.2.2.2.2.2.2.2.2.2.2.1, o10.2.2.2.2.2.2.2.2.2.2.2.2.2)]) C 0 1 rfl rfl (by show ¬ (_ ∨ _); decide) dX6_sense_71 rfl ?_
        refine g_iload C dX6_sense_72 0 rfl ?_
        obtain rfl := Option.some.inj hf
        exact g_iret C K dX6_sense_74 (Nat.le_of_ble_eq_true rfl) (Nat.le_of_ble_eq_true rfl) ⟨rfl, rfl⟩
      · have hf := (f_if hf).1 c9
        refine g_bipush (v := (-2 : Int32)) C dX6_sense_27 (by decide) ?_
        obtain rfl := Option.some.inj hf
        exact g_iret C K dX6_sense_29 (Nat.le_of_ble_eq_true rfl) (Nat.le_of_ble_eq_true rfl) ⟨rfl, rfl⟩
    · have hf := (f_if hf).1 c6
      refine g_sub (lv2 := []) [] rfl ?_
      exact h16 () hf
def f_X6_stop (N : Nat) (V : Md) : Option (Int32 × Md) := (if (V.1 (Int32.toNatClampNeg (9 : Int32))) = 0 then ((f_X6_record N V).bind fun o2 => ((f_X6_halt N o2 (1 : Int32)).bind fun o4 => some ((o4.1 (Int32.toNatClampNeg (8 : Int32))), o4))) else some ((-5 : Int32), V))
abbrev rm_X6_stop : Room := { frames := 3, cells := 0, slots := 0, locals := 65 }
set_option maxRecDepth 100000 in
theorem k_X6_stop : CF yX6_stop cX6_stop 1 (some .int) 0 := ⟨mt_710, mt_711, mt_13, mt_712, ⟨rfl, by decide +kernel, by decide +kernel, by decide +kernel⟩⟩
set_option maxHeartbeats 4000000 in
set_option maxRecDepth 100000 in
theorem c_X6_stop {E : Ev} {a : Nat → Nat} {V : Md} {N : Nat} {o : Int32 × Md} (hf : f_X6_stop N V = some o) : ∀ l, MG l yX6_stop cX6_stop 1 (some .int) rm_X6_stop E [.ref (a 0)] [md E a V] (fun v Y => v = some (.int o.1) ∧ Y = [md E a o.2]) := by
  refine MG.mk (own := RX6) (lv0 := [(0, .ref (a 0))]) (by decide) rfl (Nat.le_of_ble_eq_true rfl) rfl (fun X C K I => ?_)
  unfold f_X6_stop at hf
  refine g_aload_n C dX6_stop_0 rfl 0 rfl ?_
  refine g_get (Cl := RX6) (T := TX6) (N := 14) C mi_X6 0 rfl (List.mem_of_getElem? (i := 0) rfl) rfl 0 (by decide) mt_589 rfl rfl dX6_stop_1 ?_
  refine g_bipush (v := (9 : Int32)) C dX6_stop_4 (by decide) ?_
  refine g_iald C 0 rfl (List.mem_of_getElem? (i := 1) rfl) (by show ¬ (_ ∨ _); decide) dX6_stop_6 ?_
  refine g_if_eq (tgt := 13) C dX6_stop_7 (by decide) (fun c1 => ?_) (fun c1 => ?_)
  · have hf := (f_if hf).1 c1
    refine g_aload_n C dX6_stop_13 rfl 0 rfl ?_
    obtain ⟨o2, h3, hf⟩ := bind_s hf
    refine g_callV (As := []) (rest := []) C k_X6_record (fun l => c_X6_record (E := E) (a := a) (V := V) h3 l) mt_647 [0] rfl (by decide) ⟨_, _, _, _, List.mem_flatten.mpr ⟨_, List.mem_of_getElem? (i := 0) rfl, List.mem_of_getElem? (i := 0) rfl⟩, rfl⟩ rfl (Nat.le_of_ble_eq_true rfl) ⟨Nat.le_of_ble_eq_true rfl, Nat.le_of_ble_eq_true rfl, Nat.le_of_ble_eq_true rfl, Nat.le_of_ble_eq_true rfl⟩ dX6_stop_14 ?_
    rintro _ _ ⟨rfl, rfl⟩
    show G E X 1 [md E a o2] 0 0 [(0, .ref (a 0))] [] 17
    refine g_aload_n C dX6_stop_17 rfl 0 rfl ?_
    refine g_iconst (v := (1 : Int32)) C dX6_stop_18 (by decide) ?_
    obtain ⟨o4, h5, hf⟩ := bind_s hf
    refine g_callV (As := [.int (1 : Int32)]) (rest := []) C k_X6_halt (fun l => c_X6_halt (E := E) (a := a) (V := o2) h5 l) mt_713 [0] rfl (by decide) ⟨_, _, _, _, List.mem_flatten.mpr ⟨_, List.mem_of_getElem? (i := 0) rfl, List.mem_of_getElem? (i := 0) rfl⟩, rfl⟩ rfl (Nat.le_of_ble_eq_true rfl) ⟨Nat.le_of_ble_eq_true rfl, Nat.le_of_ble_eq_true rfl, Nat.le_of_ble_eq_true rfl, Nat.le_of_ble_eq_true rfl⟩ dX6_stop_19 ?_
    rintro _ _ ⟨rfl, rfl⟩
    show G E X 1 [md E a o4] 0 0 [(0, .ref (a 0))] [] 22
    refine g_aload_n C dX6_stop_22 rfl 0 rfl ?_
    refine g_get (Cl := RX6) (T := TX6) (N := 14) C mi_X6 0 rfl (List.mem_of_getElem? (i := 0) rfl) rfl 0 (by decide) mt_589 rfl rfl dX6_stop_23 ?_
    refine g_bipush (v := (8 : Int32)) C dX6_stop_26 (by decide) ?_
    refine g_iald C 0 rfl (List.mem_of_getElem? (i := 1) rfl) (by show ¬ (_ ∨ _); decide) dX6_stop_28 ?_
    obtain rfl := Option.some.inj hf
    exact g_iret C K dX6_stop_29 (Nat.le_of_ble_eq_true rfl) (Nat.le_of_ble_eq_true rfl) ⟨rfl, rfl⟩
  · have hf := (f_if hf).2 c1
    refine g_bipush (v := (-5 : Int32)) C dX6_stop_10 (by decide) ?_
    obtain rfl := Option.some.inj hf
    exact g_iret C K dX6_stop_12 (Nat.le_of_ble_eq_true rfl) (Nat.le_of_ble_eq_true rfl) ⟨rfl, rfl⟩
def b_X6_restart_18 (N : Nat) (V : Md) (s : Md) : Option (Int32 × Md) := some ((-5 : Int32), s)
def f_X6_restart (N : Nat) (V : Md) : Option (Int32 × Md) := (if (V.1 (Int32.toNatClampNeg (9 : Int32))) = (2 : Int32) then ((f_X6_holdsNow N V).bind fun o2 => (if o2.1 = 0 then ((f_X6_record N o2.2).bind fun o5 => some (((upd o5.1 (Int32.toNatClampNeg (9 : Int32)) (0 : Int32)) (Int32.toNatClampNeg (10 : Int32))), ((upd o5.1 (Int32.toNatClampNeg (9 : Int32)) (0 : Int32)), o5.2.1, o5.2.2.1, o5.2.2.2.1, o5.2.2.2.2.1, o5.2.2.2.2.2.1, o5.2.2.2.2.2.2.1, o5.2.2.2.2.2.2.2.1, o5.2.2.2.2.2.2.2.2.1, o5.2.2.2.2.2.2.2.2.2.1, o5.2.2.2.2.2.2.2.2.2.2.1, o5.2.2.2.2.2.2.2.2.2.2.2.1, o5.2.2.2.2.2.2.2.2.2.2.2.2.1, o5.2.2.2.2.2.2.2.2.2.2.2.2.2))) else b_X6_restart_18 N V o2.2)) else b_X6_restart_18 N V V)
abbrev rm_X6_restart : Room := { frames := 5, cells := 0, slots := 0, locals := 109 }
set_option maxRecDepth 100000 in
theorem k_X6_restart : CF yX6_restart cX6_restart 1 (some .int) 0 := ⟨mt_726, mt_727, mt_13, mt_728, ⟨rfl, by decide +kernel, by decide +kernel, by decide +kernel⟩⟩
set_option maxHeartbeats 4000000 in
set_option maxRecDepth 100000 in
theorem c_X6_restart {E : Ev} {a : Nat → Nat} {V : Md} {N : Nat} {o : Int32 × Md} (hf : f_X6_restart N V = some o) : ∀ l, MG l yX6_restart cX6_restart 1 (some .int) rm_X6_restart E [.ref (a 0)] [md E a V] (fun v Y => v = some (.int o.1) ∧ Y = [md E a o.2]) := by
  refine MG.mk (own := RX6) (lv0 := [(0, .ref (a 0))]) (by decide) rfl (Nat.le_of_ble_eq_true rfl) rfl (fun X C K I => ?_)
  have h18 : ∀ s : Md, b_X6_restart_18 N V s = some o → G E X 1 [md E a s] 0 0 [] [] 18 := by
    intro s hf
    unfold b_X6_restart_18 at hf
    refine g_bipush (v := (-5 : Int32)) C dX6_restart_18 (by decide) ?_
    obtain rfl := Option.some.inj hf
    exact g_iret C K dX6_restart_20 (Nat.le_of_ble_eq_true rfl) (Nat.le_of_ble_eq_true rfl) ⟨rfl, rfl⟩
  unfold f_X6_restart at hf
  refine g_aload_n C dX6_restart_0 rfl 0 rfl ?_
  refine g_get (Cl := RX6) (T := TX6) (N := 14) C mi_X6 0 rfl (List.mem_of_getElem? (i := 0) rfl) rfl 0 (by decide) mt_589 rfl rfl dX6_restart_1 ?_
  refine g_bipush (v := (9 : Int32)) C dX6_restart_4 (by decide) ?_
  refine g_iald C 0 rfl (List.mem_of_getElem? (i := 1) rfl) (by show ¬ (_ ∨ _); decide) dX6_restart_6 ?_
  refine g_iconst (v := (2 : Int32)) C dX6_restart_7 (by decide) ?_
  refine g_icmp_ne (tgt := 18) C dX6_restart_8 (by decide) (fun c1 => ?_) (fun c1 => ?_)
  · have hf := (f_if hf).2 c1
    refine g_sub (lv2 := []) [] rfl ?_
    exact h18 V hf
  · have hf := (f_if hf).1 c1
    refine g_aload_n C dX6_restart_11 rfl 0 rfl ?_
    obtain ⟨o2, h3, hf⟩ := bind_s hf
    refine g_callV (As := []) (rest := []) C k_X6_holdsNow (fun l => c_X6_holdsNow (E := E) (a := a) (V := V) h3 l) mt_729 [0] rfl (by decide) ⟨_, _, _, _, List.mem_flatten.mpr ⟨_, List.mem_of_getElem? (i := 0) rfl, List.mem_of_getElem? (i := 0) rfl⟩, rfl⟩ rfl (Nat.le_of_ble_eq_true rfl) ⟨Nat.le_of_ble_eq_true rfl, Nat.le_of_ble_eq_true rfl, Nat.le_of_ble_eq_true rfl, Nat.le_of_ble_eq_true rfl⟩ dX6_restart_12 ?_
    rintro _ _ ⟨rfl, rfl⟩
    show G E X 1 [md E a o2.2] 0 0 [(0, .ref (a 0))] [.int o2.1] 15
    refine g_if_eq (tgt := 21) C dX6_restart_15 (by decide) (fun c4 => ?_) (fun c4 => ?_)
    · have hf := (f_if hf).1 c4
      refine g_aload_n C dX6_restart_21 rfl 0 rfl ?_
      obtain ⟨o5, h6, hf⟩ := bind_s hf
      refine g_callV (As := []) (rest := []) C k_X6_record (fun l => c_X6_record (E := E) (a := a) (V := o2.2) h6 l) mt_647 [0] rfl (by decide) ⟨_, _, _, _, List.mem_flatten.mpr ⟨_, List.mem_of_getElem? (i := 0) rfl, List.mem_of_getElem? (i := 0) rfl⟩, rfl⟩ rfl (Nat.le_of_ble_eq_true rfl) ⟨Nat.le_of_ble_eq_true rfl, Nat.le_of_ble_eq_true rfl, Nat.le_of_ble_eq_true rfl, Nat.le_of_ble_eq_true rfl⟩ dX6_restart_22 ?_
      rintro _ _ ⟨rfl, rfl⟩
      show G E X 1 [md E a o5] 0 0 [(0, .ref (a 0))] [] 25
      refine g_aload_n C dX6_restart_25 rfl 0 rfl ?_
      refine g_get (Cl := RX6) (T := TX6) (N := 14) C mi_X6 0 rfl (List.mem_of_getElem? (i := 0) rfl) rfl 0 (by decide) mt_589 rfl rfl dX6_restart_26 ?_
      refine g_bipush (v := (9 : Int32)) C dX6_restart_29 (by decide) ?_
      refine g_iconst (v := (0 : Int32)) C dX6_restart_31 (by decide) ?_
      refine g_iast (Y2 := [md E a ((upd o5.1 (Int32.toNatClampNeg (9 : Int32)) (0 : Int32)), o5.2.1, o5.2.2.1, o5.2.2.2.1, o5.2.2.2.2.1, o5.2.2.2.2.2.1, o5.2.2.2.2.2.2.1, o5.2.2.2.2.2.2.2.1, o5.2.2.2.2.2.2.2.2.1, o5.2.2.2.2.2.2.2.2.2.1, o5.2.2.2.2.2.2.2.2.2.2.1, o5.2.2.2.2.2.2.2.2.2.2.2.1, o5.2.2.2.2.2.2.2.2.2.2.2.2.1, o5.2.2.2.2.2.2.2.2.2.2.2.2.2)]) C 0 1 rfl rfl (by show ¬ (_ ∨ _); decide) dX6_restart_32 rfl ?_
      refine g_aload_n C dX6_restart_33 rfl 0 rfl ?_
      refine g_get (Cl := RX6) (T := TX6) (N := 14) C mi_X6 0 rfl (List.mem_of_getElem? (i := 0) rfl) rfl 0 (by decide) mt_589 rfl rfl dX6_restart_34 ?_
      refine g_bipush (v := (10 : Int32)) C dX6_restart_37 (by decide) ?_
      refine g_iald C 0 rfl (List.mem_of_getElem? (i := 1) rfl) (by show ¬ (_ ∨ _); decide) dX6_restart_39 ?_
      obtain rfl := Option.some.inj hf
      exact g_iret C K dX6_restart_40 (Nat.le_of_ble_eq_true rfl) (Nat.le_of_ble_eq_true rfl) ⟨rfl, rfl⟩
    · have hf := (f_if hf).2 c4
      refine g_sub (lv2 := []) [] rfl ?_
      exact h18 o2.2 hf
def b_X6_pass_37 (N : Nat) (V : Md) (p0 : Int32) (K : (Md × Int32) → Option (Int32 × Md)) (s : Md × Int32) : Option (Int32 × Md) := (if p0 ≤ s.2 then some ((s.1.1 (Int32.toNatClampNeg (7 : Int32))), s.1) else ((f_X6_goTick N s.1).bind fun o2 => K (o2, (s.2 + (1 : Int32)))))
def f_X6_pass (N : Nat) (V : Md) (p0 : Int32) : Option (Int32 × Md) := ((f_X6_in p0 (1 : Int32) (999 : Int32)).bind fun o4 => (if o4 = 0 then some ((-2 : Int32), V) else (if ((V.1 (Int32.toNatClampNeg (7 : Int32))) + p0) ≤ (99999 : Int32) then ((f_X6_record N V).bind fun o8 => lp (b_X6_pass_37 N V p0) N (o8, (0 : Int32))) else some ((-4 : Int32), V))))
abbrev rm_X6_pass : Room := { frames := 6, cells := 0, slots := 0, locals := 132 }
set_option maxRecDepth 100000 in
theorem k_X6_pass : CF yX6_pass cX6_pass 3 (some .int) 1 := ⟨mt_738, mt_739, mt_13, mt_740, ⟨rfl, by decide +kernel, by decide +kernel, by decide +kernel⟩⟩
set_option maxHeartbeats 4000000 in
set_option maxRecDepth 100000 in
theorem c_X6_pass {E : Ev} {a : Nat → Nat} {V : Md} {p0 : Int32} {N : Nat} {o : Int32 × Md} (hf : f_X6_pass N V p0 = some o) : ∀ l, MG l yX6_pass cX6_pass 3 (some .int) rm_X6_pass E [.ref (a 0), .int p0] [md E a V] (fun v Y => v = some (.int o.1) ∧ Y = [md E a o.2]) := by
  refine MG.mk (own := RX6) (lv0 := [(0, .ref (a 0)), (1, .int p0)]) (by decide) rfl (Nat.le_of_ble_eq_true rfl) rfl (fun X C K I => ?_)
  have h37 : ∀ (n : Nat) (s : Md × Int32), lp (b_X6_pass_37 N V p0) n s = some o → G E X 3 [md E a s.1] 0 0 [(0, .ref (a 0)), (1, .int p0), (2, .int s.2)] [] 37 := lp_ind (by
    intro K37 hK37 s hf
    unfold b_X6_pass_37 at hf
    refine g_iload_n C dX6_pass_37 rfl 2 rfl ?_
    refine g_iload_n C dX6_pass_38 rfl 1 rfl ?_
    refine g_icmp_ge (tgt := 52) C dX6_pass_39 (by decide) (fun c1 => ?_) (fun c1 => ?_)
    · have hf := (f_if hf).1 c1
      refine g_aload_n C dX6_pass_52 rfl 0 rfl ?_
      refine g_get (Cl := RX6) (T := TX6) (N := 14) C mi_X6 0 rfl (List.mem_of_getElem? (i := 0) rfl) rfl 0 (by decide) mt_589 rfl rfl dX6_pass_53 ?_
      refine g_bipush (v := (7 : Int32)) C dX6_pass_56 (by decide) ?_
      refine g_iald C 0 rfl (List.mem_of_getElem? (i := 1) rfl) (by show ¬ (_ ∨ _); decide) dX6_pass_58 ?_
      obtain rfl := Option.some.inj hf
      exact g_iret C K dX6_pass_59 (Nat.le_of_ble_eq_true rfl) (Nat.le_of_ble_eq_true rfl) ⟨rfl, rfl⟩
    · have hf := (f_if hf).2 c1
      refine g_aload_n C dX6_pass_42 rfl 0 rfl ?_
      obtain ⟨o2, h3, hf⟩ := bind_s hf
      refine g_callV (As := []) (rest := []) C k_X6_goTick (fun l => c_X6_goTick (E := E) (a := a) (V := s.1) h3 l) mt_742 [0] rfl (by decide) ⟨_, _, _, _, List.mem_flatten.mpr ⟨_, List.mem_of_getElem? (i := 0) rfl, List.mem_of_getElem? (i := 0) rfl⟩, rfl⟩ rfl (Nat.le_of_ble_eq_true rfl) ⟨Nat.le_of_ble_eq_true rfl, Nat.le_of_ble_eq_true rfl, Nat.le_of_ble_eq_true rfl, Nat.le_of_ble_eq_true rfl⟩ dX6_pass_43 ?_
      rintro _ _ ⟨rfl, rfl⟩
      show G E X 3 [md E a o2] 0 0 [(0, .ref (a 0)), (1, .int p0), (2, .int s.2)] [] 46
      refine g_iinc (v := (s.2 + (1 : Int32))) (lv2 := [(2, .int (s.2 + (1 : Int32))), (0, .ref (a 0)), (1, .int p0)]) C dX6_pass_46 2 rfl (ii (by decide)) (by decide) rfl ?_
      refine g_goto (tgt := 37) C dX6_pass_49 (by decide) ?_
      refine g_sub (lv2 := [(0, .ref (a 0)), (1, .int p0), (2, .int (s.2 + (1 : Int32)))]) [1, 2, 0] rfl ?_
      exact hK37 (o2, (s.2 + (1 : Int32))) hf)
  unfold f_X6_pass at hf
  refine g_iload_n C dX6_pass_0 rfl 1 rfl ?_
  refine g_iconst (v := (1 : Int32)) C dX6_pass_1 (by decide) ?_
  refine g_sipush (v := (999 : Int32)) C dX6_pass_2 (by decide) ?_
  obtain ⟨o4, h5, hf⟩ := bind_s hf
  refine g_callS (As := [.int p0, .int (1 : Int32), .int (999 : Int32)]) (rest := []) C k_X6_in (fun l => c_X6_in (E := E) h5 l) mt_640 [] rfl (by decide) rfl (Nat.le_of_ble_eq_true rfl) ⟨Nat.le_of_ble_eq_true rfl, Nat.le_of_ble_eq_true rfl, Nat.le_of_ble_eq_true rfl, Nat.le_of_ble_eq_true rfl⟩ dX6_pass_5 ?_
  rintro _ _ ⟨rfl, rfl⟩
  show G E X 3 [md E a V] 0 0 [(0, .ref (a 0)), (1, .int p0)] [.int o4] 8
  refine g_if_ne (tgt := 14) C dX6_pass_8 (by decide) (fun c6 => ?_) (fun c6 => ?_)
  · have hf := (f_if hf).2 c6
    refine g_aload_n C dX6_pass_14 rfl 0 rfl ?_
    refine g_get (Cl := RX6) (T := TX6) (N := 14) C mi_X6 0 rfl (List.mem_of_getElem? (i := 0) rfl) rfl 0 (by decide) mt_589 rfl rfl dX6_pass_15 ?_
    refine g_bipush (v := (7 : Int32)) C dX6_pass_18 (by decide) ?_
    refine g_iald C 0 rfl (List.mem_of_getElem? (i := 1) rfl) (by show ¬ (_ ∨ _); decide) dX6_pass_20 ?_
    refine g_iload_n C dX6_pass_21 rfl 1 rfl ?_
    refine g_iadd C dX6_pass_22 ?_
    refine g_ldc C mt_741 dX6_pass_23 ?_
    refine g_icmp_le (tgt := 31) C dX6_pass_25 (by decide) (fun c7 => ?_) (fun c7 => ?_)
    · have hf := (f_if hf).1 c7
      refine g_aload_n C dX6_pass_31 rfl 0 rfl ?_
      obtain ⟨o8, h9, hf⟩ := bind_s hf
      refine g_callV (As := []) (rest := []) C k_X6_record (fun l => c_X6_record (E := E) (a := a) (V := V) h9 l) mt_647 [0] rfl (by decide) ⟨_, _, _, _, List.mem_flatten.mpr ⟨_, List.mem_of_getElem? (i := 0) rfl, List.mem_of_getElem? (i := 0) rfl⟩, rfl⟩ rfl (Nat.le_of_ble_eq_true rfl) ⟨Nat.le_of_ble_eq_true rfl, Nat.le_of_ble_eq_true rfl, Nat.le_of_ble_eq_true rfl, Nat.le_of_ble_eq_true rfl⟩ dX6_pass_32 ?_
      rintro _ _ ⟨rfl, rfl⟩
      show G E X 3 [md E a o8] 0 0 [(0, .ref (a 0)), (1, .int p0)] [] 35
      refine g_iconst (v := (0 : Int32)) C dX6_pass_35 (by decide) ?_
      refine g_istore_n (lv2 := [(2, .int (0 : Int32)), (0, .ref (a 0)), (1, .int p0)]) C dX6_pass_36 rfl (by decide) rfl ?_
      refine g_sub (lv2 := [(0, .ref (a 0)), (1, .int p0), (2, .int (0 : Int32))]) [1, 2, 0] rfl ?_
      exact h37 N (o8, (0 : Int32)) hf
    · have hf := (f_if hf).2 c7
      refine g_bipush (v := (-4 : Int32)) C dX6_pass_28 (by decide) ?_
      obtain rfl := Option.some.inj hf
      exact g_iret C K dX6_pass_30 (Nat.le_of_ble_eq_true rfl) (Nat.le_of_ble_eq_true rfl) ⟨rfl, rfl⟩
  · have hf := (f_if hf).1 c6
    refine g_bipush (v := (-2 : Int32)) C dX6_pass_11 (by decide) ?_
    obtain rfl := Option.some.inj hf
    exact g_iret C K dX6_pass_13 (Nat.le_of_ble_eq_true rfl) (Nat.le_of_ble_eq_true rfl) ⟨rfl, rfl⟩
def b_X6_of_15 (V : Md) (p0 : Int32) (p1 : Int32) (s : Unit) : Option (Int32) := some (-1 : Int32)
def f_X6_of (V : Md) (p0 : Int32) (p1 : Int32) : Option (Int32) := (if p0 < 0 then b_X6_of_15 V p0 p1 () else (if p0 < (V.1 (Int32.toNatClampNeg (10 : Int32))) then (if p1 = (0 : Int32) then ((f_X6_placeOf V p0).bind fun o4 => some o4) else (if p1 = (1 : Int32) then ((f_X6_weight V p0).bind fun o7 => some o7) else (if p1 = (2 : Int32) then (ix (((83 : Int32) + ((3 : Int32) * p0)) + (2 : Int32)) 173 (some ((V.1 (Int32.toNatClampNeg (7 : Int32))) - (V.1 (Int32.toNatClampNeg (((83 : Int32) + ((3 : Int32) * p0)) + (2 : Int32))))))) else some (-2 : Int32)))) else b_X6_of_15 V p0 p1 ()))
abbrev rm_X6_of : Room := { frames := 1, cells := 0, slots := 0, locals := 21 }
set_option maxRecDepth 100000 in
theorem k_X6_of : CF yX6_of cX6_of 3 (some .int) 2 := ⟨mt_767, mt_768, mt_13, mt_769, ⟨rfl, by decide +kernel, by decide +kernel, by decide +kernel⟩⟩
set_option maxHeartbeats 4000000 in
set_option maxRecDepth 100000 in
theorem c_X6_of {E : Ev} {a : Nat → Nat} {V : Md} {p0 : Int32} {p1 : Int32} {o : Int32} (hf : f_X6_of V p0 p1 = some o) : ∀ l, MG l yX6_of cX6_of 3 (some .int) rm_X6_of E [.ref (a 0), .int p0, .int p1] [md E a V] (fun v Y => v = some (.int o) ∧ Y = [md E a V]) := by
  refine MG.mk (own := RX6) (lv0 := [(0, .ref (a 0)), (1, .int p0), (2, .int p1)]) (by decide) rfl (Nat.le_of_ble_eq_true rfl) rfl (fun X C K I => ?_)
  have h15 : ∀ s : Unit, b_X6_of_15 V p0 p1 s = some o → G E X 3 [md E a V] 0 0 [] [] 15 := by
    intro s hf
    unfold b_X6_of_15 at hf
    refine g_iconst (v := (-1 : Int32)) C dX6_of_15 ofI_m1 ?_
    obtain rfl := Option.some.inj hf
    exact g_iret C K dX6_of_16 (Nat.le_of_ble_eq_true rfl) (Nat.le_of_ble_eq_true rfl) ⟨rfl, rfl⟩
  unfold f_X6_of at hf
  refine g_iload_n C dX6_of_0 rfl 1 rfl ?_
  refine g_if_lt (tgt := 15) C dX6_of_1 (by decide) (fun c1 => ?_) (fun c1 => ?_)
  · have hf := (f_if hf).1 c1
    refine g_sub (lv2 := []) [] rfl ?_
    exact h15 () hf
  · have hf := (f_if hf).2 c1
    refine g_iload_n C dX6_of_4 rfl 1 rfl ?_
    refine g_aload_n C dX6_of_5 rfl 0 rfl ?_
    refine g_get (Cl := RX6) (T := TX6) (N := 14) C mi_X6 0 rfl (List.mem_of_getElem? (i := 0) rfl) rfl 0 (by decide) mt_589 rfl rfl dX6_of_6 ?_
    refine g_bipush (v := (10 : Int32)) C dX6_of_9 (by decide) ?_
    refine g_iald C 0 rfl (List.mem_of_getElem? (i := 1) rfl) (by show ¬ (_ ∨ _); decide) dX6_of_11 ?_
    refine g_icmp_lt (tgt := 17) C dX6_of_12 (by decide) (fun c2 => ?_) (fun c2 => ?_)
    · have hf := (f_if hf).1 c2
      refine g_iload_n C dX6_of_17 rfl 2 rfl ?_
      by_cases c3 : p1 = (0 : Int32)
      · have hf := (f_if hf).1 c3
        refine g_tin (tgt := 44) C dX6_of_18 (by rw [c3] <;> decide) (by rw [c3] <;> decide) (by rw [c3] <;> rfl) (by decide) ?_
        refine g_aload_n C dX6_of_44 rfl 0 rfl ?_
        refine g_iload_n C dX6_of_45 rfl 1 rfl ?_
        obtain ⟨o4, h5, hf⟩ := bind_s hf
        refine g_callV (As := [.int p0]) (rest := []) C k_X6_placeOf (fun l => c_X6_placeOf (E := E) (a := a) (V := V) h5 l) mt_762 [0] rfl (by decide) ⟨_, _, _, _, List.mem_flatten.mpr ⟨_, List.mem_of_getElem? (i := 0) rfl, List.mem_of_getElem? (i := 0) rfl⟩, rfl⟩ rfl (Nat.le_of_ble_eq_true rfl) ⟨Nat.le_of_ble_eq_true rfl, Nat.le_of_ble_eq_true rfl, Nat.le_of_ble_eq_true rfl, Nat.le_of_ble_eq_true rfl⟩ dX6_of_46 ?_
        rintro _ _ ⟨rfl, rfl⟩
        show G E X 3 [md E a V] 0 0 [(0, .ref (a 0)), (1, .int p0), (2, .int p1)] [.int o4] 49
        obtain rfl := Option.some.inj hf
        exact g_iret C K dX6_of_49 (Nat.le_of_ble_eq_true rfl) (Nat.le_of_ble_eq_true rfl) ⟨rfl, rfl⟩
      have hf := (f_if hf).2 c3
      by_cases c6 : p1 = (1 : Int32)
      · have hf := (f_if hf).1 c6
        refine g_tin (tgt := 50) C dX6_of_18 (by rw [c6] <;> decide) (by rw [c6] <;> decide) (by rw [c6] <;> rfl) (by decide) ?_
        refine g_aload_n C dX6_of_50 rfl 0 rfl ?_
        refine g_iload_n C dX6_of_51 rfl 1 rfl ?_
        obtain ⟨o7, h8, hf⟩ := bind_s hf
        refine g_callV (As := [.int p0]) (rest := []) C k_X6_weight (fun l => c_X6_weight (E := E) (a := a) (V := V) h8 l) mt_721 [0] rfl (by decide) ⟨_, _, _, _, List.mem_flatten.mpr ⟨_, List.mem_of_getElem? (i := 0) rfl, List.mem_of_getElem? (i := 0) rfl⟩, rfl⟩ rfl (Nat.le_of_ble_eq_true rfl) ⟨Nat.le_of_ble_eq_true rfl, Nat.le_of_ble_eq_true rfl, Nat.le_of_ble_eq_true rfl, Nat.le_of_ble_eq_true rfl⟩ dX6_of_52 ?_
        rintro _ _ ⟨rfl, rfl⟩
        show G E X 3 [md E a V] 0 0 [(0, .ref (a 0)), (1, .int p0), (2, .int p1)] [.int o7] 55
        obtain rfl := Option.some.inj hf
        exact g_iret C K dX6_of_55 (Nat.le_of_ble_eq_true rfl) (Nat.le_of_ble_eq_true rfl) ⟨rfl, rfl⟩
      have hf := (f_if hf).2 c6
      by_cases c9 : p1 = (2 : Int32)
      · have hf := (f_if hf).1 c9
        refine g_tin (tgt := 56) C dX6_of_18 (by rw [c9] <;> decide) (by rw [c9] <;> decide) (by rw [c9] <;> rfl) (by decide) ?_
        refine g_aload_n C dX6_of_56 rfl 0 rfl ?_
        refine g_get (Cl := RX6) (T := TX6) (N := 14) C mi_X6 0 rfl (List.mem_of_getElem? (i := 0) rfl) rfl 0 (by decide) mt_589 rfl rfl dX6_of_57 ?_
        refine g_bipush (v := (7 : Int32)) C dX6_of_60 (by decide) ?_
        refine g_iald C 0 rfl (List.mem_of_getElem? (i := 1) rfl) (by show ¬ (_ ∨ _); decide) dX6_of_62 ?_
        refine g_aload_n C dX6_of_63 rfl 0 rfl ?_
        refine g_get (Cl := RX6) (T := TX6) (N := 14) C mi_X6 0 rfl (List.mem_of_getElem? (i := 0) rfl) rfl 0 (by decide) mt_589 rfl rfl dX6_of_64 ?_
        refine g_bipush (v := (83 : Int32)) C dX6_of_67 (by decide) ?_
        refine g_iconst (v := (3 : Int32)) C dX6_of_69 (by decide) ?_
        refine g_iload_n C dX6_of_70 rfl 1 rfl ?_
        refine g_imul C dX6_of_71 ?_
        refine g_iadd C dX6_of_72 ?_
        refine g_iconst (v := (2 : Int32)) C dX6_of_73 (by decide) ?_
        refine g_iadd C dX6_of_74 ?_
        obtain ⟨i10, hf⟩ := ix_s hf
        refine g_iald C 0 rfl (List.mem_of_getElem? (i := 1) rfl) i10 dX6_of_75 ?_
        refine g_isub C dX6_of_76 ?_
        obtain rfl := Option.some.inj hf
        exact g_iret C K dX6_of_77 (Nat.le_of_ble_eq_true rfl) (Nat.le_of_ble_eq_true rfl) ⟨rfl, rfl⟩
      have hf := (f_if hf).2 c9
      refine g_tout (tgt := 78) C dX6_of_18 (by have ec3 := ne_ti (a := 0) c3 rfl; have ec6 := ne_ti (a := 1) c6 rfl; have ec9 := ne_ti (a := 2) c9 rfl; omega) (by decide) ?_
      refine g_bipush (v := (-2 : Int32)) C dX6_of_78 (by decide) ?_
      obtain rfl := Option.some.inj hf
      exact g_iret C K dX6_of_80 (Nat.le_of_ble_eq_true rfl) (Nat.le_of_ble_eq_true rfl) ⟨rfl, rfl⟩
    · have hf := (f_if hf).2 c2
      refine g_sub (lv2 := []) [] rfl ?_
      exact h15 () hf
def b_X6_ofSpot_53 (V : Md) (p0 : Int32) (p1 : Int32) (s : Int32) : Option (Int32) := some s
def f_X6_ofSpot (V : Md) (p0 : Int32) (p1 : Int32) : Option (Int32) := ((f_X6_isSpot p0).bind fun o1 => (if o1 = 0 then some (-1 : Int32) else ((f_X6_in p1 (0 : Int32) (2 : Int32)).bind fun o4 => (if o4 = 0 then some (-2 : Int32) else (if p1 = (2 : Int32) then (ix ((12 : Int32) + p0) 173 (b_X6_ofSpot_53 V p0 p1 (V.1 (Int32.toNatClampNeg ((12 : Int32) + p0))))) else b_X6_ofSpot_53 V p0 p1 (((V.1 (Int32.toNatClampNeg (11 : Int32))) >>> ((((2 : Int32) * p0) + p1) &&& 31)) &&& (1 : Int32)))))))
abbrev rm_X6_ofSpot : Room := { frames := 2, cells := 0, slots := 0, locals := 42 }
set_option maxRecDepth 100000 in
theorem k_X6_ofSpot : CF yX6_ofSpot cX6_ofSpot 3 (some .int) 2 := ⟨mt_771, mt_772, mt_13, mt_773, ⟨rfl, by decide +kernel, by decide +kernel, by decide +kernel⟩⟩
set_option maxHeartbeats 4000000 in
set_option maxRecDepth 100000 in
theorem c_X6_ofSpot {E : Ev} {a : Nat → Nat} {V : Md} {p0 : Int32} {p1 : Int32} {o : Int32} (hf : f_X6_ofSpot V p0 p1 = some o) : ∀ l, MG l yX6_ofSpot cX6_ofSpot 3 (some .int) rm_X6_ofSpot E [.ref (a 0), .int p0, .int p1] [md E a V] (fun v Y => v = some (.int o) ∧ Y = [md E a V]) := by
  refine MG.mk (own := RX6) (lv0 := [(0, .ref (a 0)), (1, .int p0), (2, .int p1)]) (by decide) rfl (Nat.le_of_ble_eq_true rfl) rfl (fun X C K I => ?_)
  have h53 : ∀ s : Int32, b_X6_ofSpot_53 V p0 p1 s = some o → G E X 3 [md E a V] 0 0 [] [.int s] 53 := by
    intro s hf
    unfold b_X6_ofSpot_53 at hf
    obtain rfl := Option.some.inj hf
    exact g_iret C K dX6_ofSpot_53 (Nat.le_of_ble_eq_true rfl) (Nat.le_of_ble_eq_true rfl) ⟨rfl, rfl⟩
  unfold f_X6_ofSpot at hf
  refine g_iload_n C dX6_ofSpot_0 rfl 1 rfl ?_
  obtain ⟨o1, h2, hf⟩ := bind_s hf
  refine g_callS (As := [.int p0]) (rest := []) C k_X6_isSpot (fun l => c_X6_isSpot (E := E) h2 l) mt_706 [] rfl (by decide) rfl (Nat.le_of_ble_eq_true rfl) ⟨Nat.le_of_ble_eq_true rfl, Nat.le_of_ble_eq_true rfl, Nat.le_of_ble_eq_true rfl, Nat.le_of_ble_eq_true rfl⟩ dX6_ofSpot_1 ?_
  rintro _ _ ⟨rfl, rfl⟩
  show G E X 3 [md E a V] 0 0 [(0, .ref (a 0)), (1, .int p0), (2, .int p1)] [.int o1] 4
  refine g_if_ne (tgt := 9) C dX6_ofSpot_4 (by decide) (fun c3 => ?_) (fun c3 => ?_)
  · have hf := (f_if hf).2 c3
    refine g_iload_n C dX6_ofSpot_9 rfl 2 rfl ?_
    refine g_iconst (v := (0 : Int32)) C dX6_ofSpot_10 (by decide) ?_
    refine g_iconst (v := (2 : Int32)) C dX6_ofSpot_11 (by decide) ?_
    obtain ⟨o4, h5, hf⟩ := bind_s hf
    refine g_callS (As := [.int p1, .int (0 : Int32), .int (2 : Int32)]) (rest := []) C k_X6_in (fun l => c_X6_in (E := E) h5 l) mt_640 [] rfl (by decide) rfl (Nat.le_of_ble_eq_true rfl) ⟨Nat.le_of_ble_eq_true rfl, Nat.le_of_ble_eq_true rfl, Nat.le_of_ble_eq_true rfl, Nat.le_of_ble_eq_true rfl⟩ dX6_ofSpot_12 ?_
    rintro _ _ ⟨rfl, rfl⟩
    show G E X 3 [md E a V] 0 0 [(0, .ref (a 0)), (1, .int p0), (2, .int p1)] [.int o4] 15
    refine g_if_ne (tgt := 21) C dX6_ofSpot_15 (by decide) (fun c6 => ?_) (fun c6 => ?_)
    · have hf := (f_if hf).2 c6
      refine g_iload_n C dX6_ofSpot_21 rfl 2 rfl ?_
      refine g_iconst (v := (2 : Int32)) C dX6_ofSpot_22 (by decide) ?_
      refine g_icmp_ne (tgt := 38) C dX6_ofSpot_23 (by decide) (fun c7 => ?_) (fun c7 => ?_)
      · have hf := (f_if hf).2 c7
        refine g_aload_n C dX6_ofSpot_38 rfl 0 rfl ?_
        refine g_get (Cl := RX6) (T := TX6) (N := 14) C mi_X6 0 rfl (List.mem_of_getElem? (i := 0) rfl) rfl 0 (by decide) mt_589 rfl rfl dX6_ofSpot_39 ?_
        refine g_bipush (v := (11 : Int32)) C dX6_ofSpot_42 (by decide) ?_
        refine g_iald C 0 rfl (List.mem_of_getElem? (i := 1) rfl) (by show ¬ (_ ∨ _); decide) dX6_ofSpot_44 ?_
        refine g_iconst (v := (2 : Int32)) C dX6_ofSpot_45 (by decide) ?_
        refine g_iload_n C dX6_ofSpot_46 rfl 1 rfl ?_
        refine g_imul C dX6_ofSpot_47 ?_
        refine g_iload_n C dX6_ofSpot_48 rfl 2 rfl ?_
        refine g_iadd C dX6_ofSpot_49 ?_
        refine g_ishr C dX6_ofSpot_50 ?_
        refine g_iconst (v := (1 : Int32)) C dX6_ofSpot_51 (by decide) ?_
        refine g_iand C dX6_ofSpot_52 ?_
        refine g_sub (lv2 := []) [] rfl ?_
        exact h53 (((V.1 (Int32.toNatClampNeg (11 : Int32))) >>> ((((2 : Int32) * p0) + p1) &&& 31)) &&& (1 : Int32)) hf
      · have hf := (f_if hf).1 c7
        refine g_aload_n C dX6_ofSpot_26 rfl 0 rfl ?_
        refine g_get (Cl := RX6) (T := TX6) (N := 14) C mi_X6 0 rfl (List.mem_of_getElem? (i := 0) rfl) rfl 0 (by decide) mt_589 rfl rfl dX6_ofSpot_27 ?_
        refine g_bipush (v := (12 : Int32)) C dX6_ofSpot_30 (by decide) ?_
        refine g_iload_n C dX6_ofSpot_32 rfl 1 rfl ?_
        refine g_iadd C dX6_ofSpot_33 ?_
        obtain ⟨i8, hf⟩ := ix_s hf
        refine g_iald C 0 rfl (List.mem_of_getElem? (i := 1) rfl) i8 dX6_ofSpot_34 ?_
        refine g_goto (tgt := 53) C dX6_ofSpot_35 (by decide) ?_
        refine g_sub (lv2 := []) [] rfl ?_
        exact h53 (V.1 (Int32.toNatClampNeg ((12 : Int32) + p0))) hf
    · have hf := (f_if hf).1 c6
      refine g_bipush (v := (-2 : Int32)) C dX6_ofSpot_18 (by decide) ?_
      obtain rfl := Option.some.inj hf
      exact g_iret C K dX6_ofSpot_20 (Nat.le_of_ble_eq_true rfl) (Nat.le_of_ble_eq_true rfl) ⟨rfl, rfl⟩
  · have hf := (f_if hf).1 c3
    refine g_iconst (v := (-1 : Int32)) C dX6_ofSpot_7 ofI_m1 ?_
    obtain rfl := Option.some.inj hf
    exact g_iret C K dX6_ofSpot_8 (Nat.le_of_ble_eq_true rfl) (Nat.le_of_ble_eq_true rfl) ⟨rfl, rfl⟩
def b_X6_ofStop_64 (V : Md) (p0 : Int32) (p1 : Int32) (s : Int32) : Option (Int32) := some s
def b_X6_ofStop_34 (V : Md) (p0 : Int32) (p1 : Int32) (s : Unit) : Option (Int32) := some (-1 : Int32)
def b_X6_ofStop_24 (V : Md) (p0 : Int32) (p1 : Int32) (s : Int32) : Option (Int32) := (if p0 < 0 then b_X6_ofStop_34 V p0 p1 () else (if p0 < s then ((f_X6_in p1 (0 : Int32) (4 : Int32)).bind fun o3 => (if o3 = 0 then b_X6_ofStop_64 V p0 p1 (-2 : Int32) else (ix (((143 : Int32) + ((5 : Int32) * p0)) + p1) 173 (b_X6_ofStop_64 V p0 p1 (V.1 (Int32.toNatClampNeg (((143 : Int32) + ((5 : Int32) * p0)) + p1))))))) else b_X6_ofStop_34 V p0 p1 ()))
def f_X6_ofStop (V : Md) (p0 : Int32) (p1 : Int32) : Option (Int32) := (if (6 : Int32) ≤ (V.1 (Int32.toNatClampNeg (19 : Int32))) then b_X6_ofStop_24 V p0 p1 (6 : Int32) else b_X6_ofStop_24 V p0 p1 (V.1 (Int32.toNatClampNeg (19 : Int32))))
abbrev rm_X6_ofStop : Room := { frames := 1, cells := 0, slots := 0, locals := 22 }
set_option maxRecDepth 100000 in
theorem k_X6_ofStop : CF yX6_ofStop cX6_ofStop 4 (some .int) 2 := ⟨mt_775, mt_776, mt_13, mt_777, ⟨rfl, by decide +kernel, by decide +kernel, by decide +kernel⟩⟩
set_option maxHeartbeats 4000000 in
set_option maxRecDepth 100000 in
theorem c_X6_ofStop {E : Ev} {a : Nat → Nat} {V : Md} {p0 : Int32} {p1 : Int32} {o : Int32} (hf : f_X6_ofStop V p0 p1 = some o) : ∀ l, MG l yX6_ofStop cX6_ofStop 4 (some .int) rm_X6_ofStop E [.ref (a 0), .int p0, .int p1] [md E a V] (fun v Y => v = some (.int o) ∧ Y = [md E a V]) := by
  refine MG.mk (own := RX6) (lv0 := [(0, .ref (a 0)), (1, .int p0), (2, .int p1)]) (by decide) rfl (Nat.le_of_ble_eq_true rfl) rfl (fun X C K I => ?_)
  have h64 : ∀ s : Int32, b_X6_ofStop_64 V p0 p1 s = some o → G E X 4 [md E a V] 0 0 [] [.int s] 64 := by
    intro s hf
    unfold b_X6_ofStop_64 at hf
    obtain rfl := Option.some.inj hf
    exact g_iret C K dX6_ofStop_64 (Nat.le_of_ble_eq_true rfl) (Nat.le_of_ble_eq_true rfl) ⟨rfl, rfl⟩
  have h34 : ∀ s : Unit, b_X6_ofStop_34 V p0 p1 s = some o → G E X 4 [md E a V] 0 0 [] [] 34 := by
    intro s hf
    unfold b_X6_ofStop_34 at hf
    refine g_iconst (v := (-1 : Int32)) C dX6_ofStop_34 ofI_m1 ?_
    obtain rfl := Option.some.inj hf
    exact g_iret C K dX6_ofStop_35 (Nat.le_of_ble_eq_true rfl) (Nat.le_of_ble_eq_true rfl) ⟨rfl, rfl⟩
  have h24 : ∀ s : Int32, b_X6_ofStop_24 V p0 p1 s = some o → G E X 4 [md E a V] 0 0 [(0, .ref (a 0)), (1, .int p0), (2, .int p1)] [.int s] 24 := by
    intro s hf
    unfold b_X6_ofStop_24 at hf
    refine g_istore_n (lv2 := [(3, .int s), (0, .ref (a 0)), (1, .int p0), (2, .int p1)]) C dX6_ofStop_24 rfl (by decide) rfl ?_
    refine g_iload_n C dX6_ofStop_25 rfl 2 rfl ?_
    refine g_if_lt (tgt := 34) C dX6_ofStop_26 (by decide) (fun c1 => ?_) (fun c1 => ?_)
    · have hf := (f_if hf).1 c1
      refine g_sub (lv2 := []) [] rfl ?_
      exact h34 () hf
    · have hf := (f_if hf).2 c1
      refine g_iload_n C dX6_ofStop_29 rfl 2 rfl ?_
      refine g_iload_n C dX6_ofStop_30 rfl 0 rfl ?_
      refine g_icmp_lt (tgt := 36) C dX6_ofStop_31 (by decide) (fun c2 => ?_) (fun c2 => ?_)
      · have hf := (f_if hf).1 c2
        refine g_iload_n C dX6_ofStop_36 rfl 3 rfl ?_
        refine g_iconst (v := (0 : Int32)) C dX6_ofStop_37 (by decide) ?_
        refine g_iconst (v := (4 : Int32)) C dX6_ofStop_38 (by decide) ?_
        obtain ⟨o3, h4, hf⟩ := bind_s hf
        refine g_callS (As := [.int p1, .int (0 : Int32), .int (4 : Int32)]) (rest := []) C k_X6_in (fun l => c_X6_in (E := E) h4 l) mt_640 [] rfl (by decide) rfl (Nat.le_of_ble_eq_true rfl) ⟨Nat.le_of_ble_eq_true rfl, Nat.le_of_ble_eq_true rfl, Nat.le_of_ble_eq_true rfl, Nat.le_of_ble_eq_true rfl⟩ dX6_ofStop_39 ?_
        rintro _ _ ⟨rfl, rfl⟩
        show G E X 4 [md E a V] 0 0 [(3, .int s), (0, .ref (a 0)), (1, .int p0), (2, .int p1)] [.int o3] 42
        refine g_if_eq (tgt := 62) C dX6_ofStop_42 (by decide) (fun c5 => ?_) (fun c5 => ?_)
        · have hf := (f_if hf).1 c5
          refine g_bipush (v := (-2 : Int32)) C dX6_ofStop_62 (by decide) ?_
          refine g_sub (lv2 := []) [] rfl ?_
          exact h64 (-2 : Int32) hf
        · have hf := (f_if hf).2 c5
          refine g_aload_n C dX6_ofStop_45 rfl 1 rfl ?_
          refine g_get (Cl := RX6) (T := TX6) (N := 14) C mi_X6 0 rfl (List.mem_of_getElem? (i := 0) rfl) rfl 0 (by decide) mt_589 rfl rfl dX6_ofStop_46 ?_
          refine g_sipush (v := (143 : Int32)) C dX6_ofStop_49 (by decide) ?_
          refine g_iconst (v := (5 : Int32)) C dX6_ofStop_52 (by decide) ?_
          refine g_iload_n C dX6_ofStop_53 rfl 2 rfl ?_
          refine g_imul C dX6_ofStop_54 ?_
          refine g_iadd C dX6_ofStop_55 ?_
          refine g_iload_n C dX6_ofStop_56 rfl 3 rfl ?_
          refine g_iadd C dX6_ofStop_57 ?_
          obtain ⟨i6, hf⟩ := ix_s hf
          refine g_iald C 0 rfl (List.mem_of_getElem? (i := 1) rfl) i6 dX6_ofStop_58 ?_
          refine g_goto (tgt := 64) C dX6_ofStop_59 (by decide) ?_
          refine g_sub (lv2 := []) [] rfl ?_
          exact h64 (V.1 (Int32.toNatClampNeg (((143 : Int32) + ((5 : Int32) * p0)) + p1))) hf
      · have hf := (f_if hf).2 c2
        refine g_sub (lv2 := []) [] rfl ?_
        exact h34 () hf
  unfold f_X6_ofStop at hf
  refine g_aload_n C dX6_ofStop_0 rfl 0 rfl ?_
  refine g_get (Cl := RX6) (T := TX6) (N := 14) C mi_X6 0 rfl (List.mem_of_getElem? (i := 0) rfl) rfl 0 (by decide) mt_589 rfl rfl dX6_ofStop_1 ?_
  refine g_bipush (v := (19 : Int32)) C dX6_ofStop_4 (by decide) ?_
  refine g_iald C 0 rfl (List.mem_of_getElem? (i := 1) rfl) (by show ¬ (_ ∨ _); decide) dX6_ofStop_6 ?_
  refine g_bipush (v := (6 : Int32)) C dX6_ofStop_7 (by decide) ?_
  refine g_icmp_ge (tgt := 22) C dX6_ofStop_9 (by decide) (fun c7 => ?_) (fun c7 => ?_)
  · have hf := (f_if hf).1 c7
    refine g_bipush (v := (6 : Int32)) C dX6_ofStop_22 (by decide) ?_
    exact h24 (6 : Int32) hf
  · have hf := (f_if hf).2 c7
    refine g_aload_n C dX6_ofStop_12 rfl 0 rfl ?_
    refine g_get (Cl := RX6) (T := TX6) (N := 14) C mi_X6 0 rfl (List.mem_of_getElem? (i := 0) rfl) rfl 0 (by decide) mt_589 rfl rfl dX6_ofStop_13 ?_
    refine g_bipush (v := (19 : Int32)) C dX6_ofStop_16 (by decide) ?_
    refine g_iald C 0 rfl (List.mem_of_getElem? (i := 1) rfl) (by show ¬ (_ ∨ _); decide) dX6_ofStop_18 ?_
    refine g_goto (tgt := 24) C dX6_ofStop_19 (by decide) ?_
    exact h24 (V.1 (Int32.toNatClampNeg (19 : Int32))) hf
def f_X6_count (N : Nat) (V : Md) (p0 : Int32) : Option (Int32) := ((f_X6_in p0 (11 : Int32) (17 : Int32)).bind fun o1 => (if o1 = 0 then (if p0 = (0 : Int32) then some (V.1 (Int32.toNatClampNeg (7 : Int32))) else (if p0 = (1 : Int32) then some (V.1 (Int32.toNatClampNeg (10 : Int32))) else (if p0 = (2 : Int32) then ((f_X6_loadNow N V).bind fun o7 => some o7) else (if p0 = (3 : Int32) then some (V.1 (Int32.toNatClampNeg (8 : Int32))) else (if p0 = (4 : Int32) then some (V.1 (Int32.toNatClampNeg (9 : Int32))) else (if p0 = (5 : Int32) then some (V.1 (Int32.toNatClampNeg (17 : Int32))) else (if p0 = (6 : Int32) then some (V.1 (Int32.toNatClampNeg (18 : Int32))) else (if p0 = (7 : Int32) then some (V.1 (Int32.toNatClampNeg (19 : Int32))) else (if p0 = (8 : Int32) then some (V.1 (Int32.toNatClampNeg (16 : Int32))) else (if p0 = (9 : Int32) then some (V.1 (Int32.toNatClampNeg (20 : Int32))) else (if p0 = (10 : Int32) then some (V.1 (Int32.toNatClampNeg (21 : Int32))) else (if p0 = (11 : Int32) then some (-2 : Int32) else (if p0 = (12 : Int32) then some (-2 : Int32) else (if p0 = (13 : Int32) then some (-2 : Int32) else (if p0 = (14 : Int32) then some (-2 : Int32) else (if p0 = (15 : Int32) then some (-2 : Int32) else (if p0 = (16 : Int32) then some (-2 : Int32) else (if p0 = (17 : Int32) then some (-2 : Int32) else (if p0 = (18 : Int32) then some V.2.2.2.2.2.2.2.1 else (if p0 = (19 : Int32) then some V.2.2.2.2.1 else some (-2 : Int32))))))))))))))))))))) else (ix (p0 - (11 : Int32)) 173 (some (V.1 (Int32.toNatClampNeg (p0 - (11 : Int32))))))))
abbrev rm_X6_count : Room := { frames := 2, cells := 0, slots := 0, locals := 43 }
set_option maxRecDepth 100000 in
theorem k_X6_count : CF yX6_count cX6_count 2 (some .int) 1 := ⟨mt_779, mt_780, mt_13, mt_781, ⟨rfl, by decide +kernel, by decide +kernel, by decide +kernel⟩⟩
set_option maxHeartbeats 4000000 in
set_option maxRecDepth 100000 in
theorem c_X6_count {E : Ev} {a : Nat → Nat} {V : Md} {p0 : Int32} {N : Nat} {o : Int32} (hf : f_X6_count N V p0 = some o) : ∀ l, MG l yX6_count cX6_count 2 (some .int) rm_X6_count E [.ref (a 0), .int p0] [md E a V] (fun v Y => v = some (.int o) ∧ Y = [md E a V]) := by
  refine MG.mk (own := RX6) (lv0 := [(0, .ref (a 0)), (1, .int p0)]) (by decide) rfl (Nat.le_of_ble_eq_true rfl) rfl (fun X C K I => ?_)
  unfold f_X6_count at hf
  refine g_iload_n C dX6_count_0 rfl 1 rfl ?_
  refine g_bipush (v := (11 : Int32)) C dX6_count_1 (by decide) ?_
  refine g_bipush (v := (17 : Int32)) C dX6_count_3 (by decide) ?_
  obtain ⟨o1, h2, hf⟩ := bind_s hf
  refine g_callS (As := [.int p0, .int (11 : Int32), .int (17 : Int32)]) (rest := []) C k_X6_in (fun l => c_X6_in (E := E) h2 l) mt_640 [] rfl (by decide) rfl (Nat.le_of_ble_eq_true rfl) ⟨Nat.le_of_ble_eq_true rfl, Nat.le_of_ble_eq_true rfl, Nat.le_of_ble_eq_true rfl, Nat.le_of_ble_eq_true rfl⟩ dX6_count_5 ?_
  rintro _ _ ⟨rfl, rfl⟩
  show G E X 2 [md E a V] 0 0 [(0, .ref (a 0)), (1, .int p0)] [.int o1] 8
  refine g_if_eq (tgt := 21) C dX6_count_8 (by decide) (fun c3 => ?_) (fun c3 => ?_)
  · have hf := (f_if hf).1 c3
    refine g_iload_n C dX6_count_21 rfl 1 rfl ?_
    by_cases c4 : p0 = (0 : Int32)
    · have hf := (f_if hf).1 c4
      refine g_tin (tgt := 116) C dX6_count_22 (by rw [c4] <;> decide) (by rw [c4] <;> decide) (by rw [c4] <;> rfl) (by decide) ?_
      refine g_aload_n C dX6_count_116 rfl 0 rfl ?_
      refine g_get (Cl := RX6) (T := TX6) (N := 14) C mi_X6 0 rfl (List.mem_of_getElem? (i := 0) rfl) rfl 0 (by decide) mt_589 rfl rfl dX6_count_117 ?_
      refine g_bipush (v := (7 : Int32)) C dX6_count_120 (by decide) ?_
      refine g_iald C 0 rfl (List.mem_of_getElem? (i := 1) rfl) (by show ¬ (_ ∨ _); decide) dX6_count_122 ?_
      obtain rfl := Option.some.inj hf
      exact g_iret C K dX6_count_123 (Nat.le_of_ble_eq_true rfl) (Nat.le_of_ble_eq_true rfl) ⟨rfl, rfl⟩
    have hf := (f_if hf).2 c4
    by_cases c5 : p0 = (1 : Int32)
    · have hf := (f_if hf).1 c5
      refine g_tin (tgt := 124) C dX6_count_22 (by rw [c5] <;> decide) (by rw [c5] <;> decide) (by rw [c5] <;> rfl) (by decide) ?_
      refine g_aload_n C dX6_count_124 rfl 0 rfl ?_
      refine g_get (Cl := RX6) (T := TX6) (N := 14) C mi_X6 0 rfl (List.mem_of_getElem? (i := 0) rfl) rfl 0 (by decide) mt_589 rfl rfl dX6_count_125 ?_
      refine g_bipush (v := (10 : Int32)) C dX6_count_128 (by decide) ?_
      refine g_iald C 0 rfl (List.mem_of_getElem? (i := 1) rfl) (by show ¬ (_ ∨ _); decide) dX6_count_130 ?_
      obtain rfl := Option.some.inj hf
      exact g_iret C K dX6_count_131 (Nat.le_of_ble_eq_true rfl) (Nat.le_of_ble_eq_true rfl) ⟨rfl, rfl⟩
    have hf := (f_if hf).2 c5
    by_cases c6 : p0 = (2 : Int32)
    · have hf := (f_if hf).1 c6
      refine g_tin (tgt := 132) C dX6_count_22 (by rw [c6] <;> decide) (by rw [c6] <;> decide) (by rw [c6] <;> rfl) (by decide) ?_
      refine g_aload_n C dX6_count_132 rfl 0 rfl ?_
      obtain ⟨o7, h8, hf⟩ := bind_s hf
      refine g_callV (As := []) (rest := []) C k_X6_loadNow (fun l => c_X6_loadNow (E := E) (a := a) (V := V) h8 l) mt_717 [0] rfl (by decide) ⟨_, _, _, _, List.mem_flatten.mpr ⟨_, List.mem_of_getElem? (i := 0) rfl, List.mem_of_getElem? (i := 0) rfl⟩, rfl⟩ rfl (Nat.le_of_ble_eq_true rfl) ⟨Nat.le_of_ble_eq_true rfl, Nat.le_of_ble_eq_true rfl, Nat.le_of_ble_eq_true rfl, Nat.le_of_ble_eq_true rfl⟩ dX6_count_133 ?_
      rintro _ _ ⟨rfl, rfl⟩
      show G E X 2 [md E a V] 0 0 [(0, .ref (a 0)), (1, .int p0)] [.int o7] 136
      obtain rfl := Option.some.inj hf
      exact g_iret C K dX6_count_136 (Nat.le_of_ble_eq_true rfl) (Nat.le_of_ble_eq_true rfl) ⟨rfl, rfl⟩
    have hf := (f_if hf).2 c6
    by_cases c9 : p0 = (3 : Int32)
    · have hf := (f_if hf).1 c9
      refine g_tin (tgt := 137) C dX6_count_22 (by rw [c9] <;> decide) (by rw [c9] <;> decide) (by rw [c9] <;> rfl) (by decide) ?_
      refine g_aload_n C dX6_count_137 rfl 0 rfl ?_
      refine g_get (Cl := RX6) (T := TX6) (N := 14) C mi_X6 0 rfl (List.mem_of_getElem? (i := 0) rfl) rfl 0 (by decide) mt_589 rfl rfl dX6_count_138 ?_
      refine g_bipush (v := (8 : Int32)) C dX6_count_141 (by decide) ?_
      refine g_iald C 0 rfl (List.mem_of_getElem? (i := 1) rfl) (by show ¬ (_ ∨ _); decide) dX6_count_143 ?_
      obtain rfl := Option.some.inj hf
      exact g_iret C K dX6_count_144 (Nat.le_of_ble_eq_true rfl) (Nat.le_of_ble_eq_true rfl) ⟨rfl, rfl⟩
    have hf := (f_if hf).2 c9
    by_cases c10 : p0 = (4 : Int32)
    · have hf := (f_if hf).1 c10
      refine g_tin (tgt := 145) C dX6_count_22 (by rw [c10] <;> decide) (by rw [c10] <;> decide) (by rw [c10] <;> rfl) (by decide) ?_
      refine g_aload_n C dX6_count_145 rfl 0 rfl ?_
      refine g_get (Cl := RX6) (T := TX6) (N := 14) C mi_X6 0 rfl (List.mem_of_getElem? (i := 0) rfl) rfl 0 (by decide) mt_589 rfl rfl dX6_count_146 ?_
      refine g_bipush (v := (9 : Int32)) C dX6_count_149 (by decide) ?_
      refine g_iald C 0 rfl (List.mem_of_getElem? (i := 1) rfl) (by show ¬ (_ ∨ _); decide) dX6_count_151 ?_
      obtain rfl := Option.some.inj hf
      exact g_iret C K dX6_count_152 (Nat.le_of_ble_eq_true rfl) (Nat.le_of_ble_eq_true rfl) ⟨rfl, rfl⟩
    have hf := (f_if hf).2 c10
    by_cases c11 : p0 = (5 : Int32)
    · have hf := (f_if hf).1 c11
      refine g_tin (tgt := 153) C dX6_count_22 (by rw [c11] <;> decide) (by rw [c11] <;> decide) (by rw [c11] <;> rfl) (by decide) ?_
      refine g_aload_n C dX6_count_153 rfl 0 rfl ?_
      refine g_get (Cl := RX6) (T := TX6) (N := 14) C mi_X6 0 rfl (List.mem_of_getElem? (i := 0) rfl) rfl 0 (by decide) mt_589 rfl rfl dX6_count_154 ?_
      refine g_bipush (v := (17 : Int32)) C dX6_count_157 (by decide) ?_
      refine g_iald C 0 rfl (List.mem_of_getElem? (i := 1) rfl) (by show ¬ (_ ∨ _); decide) dX6_count_159 ?_
      obtain rfl := Option.some.inj hf
      exact g_iret C K dX6_count_160 (Nat.le_of_ble_eq_true rfl) (Nat.le_of_ble_eq_true rfl) ⟨rfl, rfl⟩
    have hf := (f_if hf).2 c11
    by_cases c12 : p0 = (6 : Int32)
    · have hf := (f_if hf).1 c12
      refine g_tin (tgt := 161) C dX6_count_22 (by rw [c12] <;> decide) (by rw [c12] <;> decide) (by rw [c12] <;> rfl) (by decide) ?_
      refine g_aload_n C dX6_count_161 rfl 0 rfl ?_
      refine g_get (Cl := RX6) (T := TX6) (N := 14) C mi_X6 0 rfl (List.mem_of_getElem? (i := 0) rfl) rfl 0 (by decide) mt_589 rfl rfl dX6_count_162 ?_
      refine g_bipush (v := (18 : Int32)) C dX6_count_165 (by decide) ?_
      refine g_iald C 0 rfl (List.mem_of_getElem? (i := 1) rfl) (by show ¬ (_ ∨ _); decide) dX6_count_167 ?_
      obtain rfl := Option.some.inj hf
      exact g_iret C K dX6_count_168 (Nat.le_of_ble_eq_true rfl) (Nat.le_of_ble_eq_true rfl) ⟨rfl, rfl⟩
    have hf := (f_if hf).2 c12
    by_cases c13 : p0 = (7 : Int32)
    · have hf := (f_if hf).1 c13
      refine g_tin (tgt := 169) C dX6_count_22 (by rw [c13] <;> decide) (by rw [c13] <;> decide) (by rw [c13] <;> rfl) (by decide) ?_
      refine g_aload_n C dX6_count_169 rfl 0 rfl ?_
      refine g_get (Cl := RX6) (T := TX6) (N := 14) C mi_X6 0 rfl (List.mem_of_getElem? (i := 0) rfl) rfl 0 (by decide) mt_589 rfl rfl dX6_count_170 ?_
      refine g_bipush (v := (19 : Int32)) C dX6_count_173 (by decide) ?_
      refine g_iald C 0 rfl (List.mem_of_getElem? (i := 1) rfl) (by show ¬ (_ ∨ _); decide) dX6_count_175 ?_
      obtain rfl := Option.some.inj hf
      exact g_iret C K dX6_count_176 (Nat.le_of_ble_eq_true rfl) (Nat.le_of_ble_eq_true rfl) ⟨rfl, rfl⟩
    have hf := (f_if hf).2 c13
    by_cases c14 : p0 = (8 : Int32)
    · have hf := (f_if hf).1 c14
      refine g_tin (tgt := 177) C dX6_count_22 (by rw [c14] <;> decide) (by rw [c14] <;> decide) (by rw [c14] <;> rfl) (by decide) ?_
      refine g_aload_n C dX6_count_177 rfl 0 rfl ?_
      refine g_get (Cl := RX6) (T := TX6) (N := 14) C mi_X6 0 rfl (List.mem_of_getElem? (i := 0) rfl) rfl 0 (by decide) mt_589 rfl rfl dX6_count_178 ?_
      refine g_bipush (v := (16 : Int32)) C dX6_count_181 (by decide) ?_
      refine g_iald C 0 rfl (List.mem_of_getElem? (i := 1) rfl) (by show ¬ (_ ∨ _); decide) dX6_count_183 ?_
      obtain rfl := Option.some.inj hf
      exact g_iret C K dX6_count_184 (Nat.le_of_ble_eq_true rfl) (Nat.le_of_ble_eq_true rfl) ⟨rfl, rfl⟩
    have hf := (f_if hf).2 c14
    by_cases c15 : p0 = (9 : Int32)
    · have hf := (f_if hf).1 c15
      refine g_tin (tgt := 185) C dX6_count_22 (by rw [c15] <;> decide) (by rw [c15] <;> decide) (by rw [c15] <;> rfl) (by decide) ?_
      refine g_aload_n C dX6_count_185 rfl 0 rfl ?_
      refine g_get (Cl := RX6) (T := TX6) (N := 14) C mi_X6 0 rfl (List.mem_of_getElem? (i := 0) rfl) rfl 0 (by decide) mt_589 rfl rfl dX6_count_186 ?_
      refine g_bipush (v := (20 : Int32)) C dX6_count_189 (by decide) ?_
      refine g_iald C 0 rfl (List.mem_of_getElem? (i := 1) rfl) (by show ¬ (_ ∨ _); decide) dX6_count_191 ?_
      obtain rfl := Option.some.inj hf
      exact g_iret C K dX6_count_192 (Nat.le_of_ble_eq_true rfl) (Nat.le_of_ble_eq_true rfl) ⟨rfl, rfl⟩
    have hf := (f_if hf).2 c15
    by_cases c16 : p0 = (10 : Int32)
    · have hf := (f_if hf).1 c16
      refine g_tin (tgt := 193) C dX6_count_22 (by rw [c16] <;> decide) (by rw [c16] <;> decide) (by rw [c16] <;> rfl) (by decide) ?_
      refine g_aload_n C dX6_count_193 rfl 0 rfl ?_
      refine g_get (Cl := RX6) (T := TX6) (N := 14) C mi_X6 0 rfl (List.mem_of_getElem? (i := 0) rfl) rfl 0 (by decide) mt_589 rfl rfl dX6_count_194 ?_
      refine g_bipush (v := (21 : Int32)) C dX6_count_197 (by decide) ?_
      refine g_iald C 0 rfl (List.mem_of_getElem? (i := 1) rfl) (by show ¬ (_ ∨ _); decide) dX6_count_199 ?_
      obtain rfl := Option.some.inj hf
      exact g_iret C K dX6_count_200 (Nat.le_of_ble_eq_true rfl) (Nat.le_of_ble_eq_true rfl) ⟨rfl, rfl⟩
    have hf := (f_if hf).2 c16
    by_cases c17 : p0 = (11 : Int32)
    · have hf := (f_if hf).1 c17
      refine g_tin (tgt := 211) C dX6_count_22 (by rw [c17] <;> decide) (by rw [c17] <;> decide) (by rw [c17] <;> rfl) (by decide) ?_
      refine g_bipush (v := (-2 : Int32)) C dX6_count_211 (by decide) ?_
      obtain rfl := Option.some.inj hf
      exact g_iret C K dX6_count_213 (Nat.le_of_ble_eq_true rfl) (Nat.le_of_ble_eq_true rfl) ⟨rfl, rfl⟩
    have hf := (f_if hf).2 c17
    by_cases c18 : p0 = (12 : Int32)
    · have hf := (f_if hf).1 c18
      refine g_tin (tgt := 211) C dX6_count_22 (by rw [c18] <;> decide) (by rw [c18] <;> decide) (by rw [c18] <;> rfl) (by decide) ?_
      refine g_bipush (v := (-2 : Int32)) C dX6_count_211 (by decide) ?_
      obtain rfl := Option.some.inj hf
      exact g_iret C K dX6_count_213 (Nat.le_of_ble_eq_true rfl) (Nat.le_of_ble_eq_true rfl) ⟨rfl, rfl⟩
    have hf := (f_if hf).2 c18
    by_cases c19 : p0 = (13 : Int32)
    · have hf := (f_if hf).1 c19
      refine g_tin (tgt := 211) C dX6_count_22 (by rw [c19] <;> decide) (by rw [c19] <;> decide) (by rw [c19] <;> rfl) (by decide) ?_
      refine g_bipush (v := (-2 : Int32)) C dX6_count_211 (by decide) ?_
      obtain rfl := Option.some.inj hf
      exact g_iret C K dX6_count_213 (Nat.le_of_ble_eq_true rfl) (Nat.le_of_ble_eq_true rfl) ⟨rfl, rfl⟩
    have hf := (f_if hf).2 c19
    by_cases c20 : p0 = (14 : Int32)
    · have hf := (f_if hf).1 c20
      refine g_tin (tgt := 211) C dX6_count_22 (by rw [c20] <;> decide) (by rw [c20] <;> decide) (by rw [c20] <;> rfl) (by decide) ?_
      refine g_bipush (v := (-2 : Int32)) C dX6_count_211 (by decide) ?_
      obtain rfl := Option.some.inj hf
      exact g_iret C K dX6_count_213 (Nat.le_of_ble_eq_true rfl) (Nat.le_of_ble_eq_true rfl) ⟨rfl, rfl⟩
    have hf := (f_if hf).2 c20
    by_cases c21 : p0 = (15 : Int32)
    · have hf := (f_if hf).1 c21
      refine g_tin (tgt := 211) C dX6_count_22 (by rw [c21] <;> decide) (by rw [c21] <;> decide) (by rw [c21] <;> rfl) (by decide) ?_
      refine g_bipush (v := (-2 : Int32)) C dX6_count_211 (by decide) ?_
      obtain rfl := Option.some.inj hf
      exact g_iret C K dX6_count_213 (Nat.le_of_ble_eq_true rfl) (Nat.le_of_ble_eq_true rfl) ⟨rfl, rfl⟩
    have hf := (f_if hf).2 c21
    by_cases c22 : p0 = (16 : Int32)
    · have hf := (f_if hf).1 c22
      refine g_tin (tgt := 211) C dX6_count_22 (by rw [c22] <;> decide) (by rw [c22] <;> decide) (by rw [c22] <;> rfl) (by decide) ?_
      refine g_bipush (v := (-2 : Int32)) C dX6_count_211 (by decide) ?_
      obtain rfl := Option.some.inj hf
      exact g_iret C K dX6_count_213 (Nat.le_of_ble_eq_true rfl) (Nat.le_of_ble_eq_true rfl) ⟨rfl, rfl⟩
    have hf := (f_if hf).2 c22
    by_cases c23 : p0 = (17 : Int32)
    · have hf := (f_if hf).1 c23
      refine g_tin (tgt := 211) C dX6_count_22 (by rw [c23] <;> decide) (by rw [c23] <;> decide) (by rw [c23] <;> rfl) (by decide) ?_
      refine g_bipush (v := (-2 : Int32)) C dX6_count_211 (by decide) ?_
      obtain rfl := Option.some.inj hf
      exact g_iret C K dX6_count_213 (Nat.le_of_ble_eq_true rfl) (Nat.le_of_ble_eq_true rfl) ⟨rfl, rfl⟩
    have hf := (f_if hf).2 c23
    by_cases c24 : p0 = (18 : Int32)
    · have hf := (f_if hf).1 c24
      refine g_tin (tgt := 201) C dX6_count_22 (by rw [c24] <;> decide) (by rw [c24] <;> decide) (by rw [c24] <;> rfl) (by decide) ?_
      refine g_aload_n C dX6_count_201 rfl 0 rfl ?_
      refine g_get (Cl := RX6) (T := TX6) (N := 14) C mi_X6 0 rfl (List.mem_of_getElem? (i := 0) rfl) rfl 7 (by decide) mt_596 rfl rfl dX6_count_202 ?_
      obtain rfl := Option.some.inj hf
      exact g_iret C K dX6_count_205 (Nat.le_of_ble_eq_true rfl) (Nat.le_of_ble_eq_true rfl) ⟨rfl, rfl⟩
    have hf := (f_if hf).2 c24
    by_cases c25 : p0 = (19 : Int32)
    · have hf := (f_if hf).1 c25
      refine g_tin (tgt := 206) C dX6_count_22 (by rw [c25] <;> decide) (by rw [c25] <;> decide) (by rw [c25] <;> rfl) (by decide) ?_
      refine g_aload_n C dX6_count_206 rfl 0 rfl ?_
      refine g_get (Cl := RX6) (T := TX6) (N := 14) C mi_X6 0 rfl (List.mem_of_getElem? (i := 0) rfl) rfl 4 (by decide) mt_593 rfl rfl dX6_count_207 ?_
      obtain rfl := Option.some.inj hf
      exact g_iret C K dX6_count_210 (Nat.le_of_ble_eq_true rfl) (Nat.le_of_ble_eq_true rfl) ⟨rfl, rfl⟩
    have hf := (f_if hf).2 c25
    refine g_tout (tgt := 211) C dX6_count_22 (by have ec4 := ne_ti (a := 0) c4 rfl; have ec5 := ne_ti (a := 1) c5 rfl; have ec6 := ne_ti (a := 2) c6 rfl; have ec9 := ne_ti (a := 3) c9 rfl; have ec10 := ne_ti (a := 4) c10 rfl; have ec11 := ne_ti (a := 5) c11 rfl; have ec12 := ne_ti (a := 6) c12 rfl; have ec13 := ne_ti (a := 7) c13 rfl; have ec14 := ne_ti (a := 8) c14 rfl; have ec15 := ne_ti (a := 9) c15 rfl; have ec16 := ne_ti (a := 10) c16 rfl; have ec17 := ne_ti (a := 11) c17 rfl; have ec18 := ne_ti (a := 12) c18 rfl; have ec19 := ne_ti (a := 13) c19 rfl; have ec20 := ne_ti (a := 14) c20 rfl; have ec21 := ne_ti (a := 15) c21 rfl; have ec22 := ne_ti (a := 16) c22 rfl; have ec23 := ne_ti (a := 17) c23 rfl; have ec24 := ne_ti (a := 18) c24 rfl; have ec25 := ne_ti (a := 19) c25 rfl; omega) (by decide) ?_
    refine g_bipush (v := (-2 : Int32)) C dX6_count_211 (by decide) ?_
    obtain rfl := Option.some.inj hf
    exact g_iret C K dX6_count_213 (Nat.le_of_ble_eq_true rfl) (Nat.le_of_ble_eq_true rfl) ⟨rfl, rfl⟩
  · have hf := (f_if hf).2 c3
    refine g_aload_n C dX6_count_11 rfl 0 rfl ?_
    refine g_get (Cl := RX6) (T := TX6) (N := 14) C mi_X6 0 rfl (List.mem_of_getElem? (i := 0) rfl) rfl 0 (by decide) mt_589 rfl rfl dX6_count_12 ?_
    refine g_iload_n C dX6_count_15 rfl 1 rfl ?_
    refine g_bipush (v := (11 : Int32)) C dX6_count_16 (by decide) ?_
    refine g_isub C dX6_count_18 ?_
    obtain ⟨i26, hf⟩ := ix_s hf
    refine g_iald C 0 rfl (List.mem_of_getElem? (i := 1) rfl) i26 dX6_count_19 ?_
    obtain rfl := Option.some.inj hf
    exact g_iret C K dX6_count_20 (Nat.le_of_ble_eq_true rfl) (Nat.le_of_ble_eq_true rfl) ⟨rfl, rfl⟩
def b_X6_wayWith_47 (N : Nat) (V : Md) (p0 : Int32) (K : (Md × Int32) → Option (Int32 × Md)) (s : Md × Int32) : Option (Int32 × Md) := (if (s.1.1 (Int32.toNatClampNeg (9 : Int32))) = (1 : Int32) then ((f_X6_goTick N s.1).bind fun o4 => K (o4, s.2)) else ((f_X6_bringBack N s.1).bind fun o2 => some (((s.1.1 (Int32.toNatClampNeg (20 : Int32))) - s.2), o2)))
def b_X6_wayWith_38 (N : Nat) (V : Md) (p0 : Int32) (s : Md × Int32 × Int32) : Option (Int32 × Md) := (ix s.2.1 173 (lp (b_X6_wayWith_47 N V p0) N (((upd s.1.1 (Int32.toNatClampNeg s.2.1) s.2.2), s.1.2.1, s.1.2.2.1, s.1.2.2.2.1, s.1.2.2.2.2.1, s.1.2.2.2.2.2.1, s.1.2.2.2.2.2.2.1, s.1.2.2.2.2.2.2.2.1, s.1.2.2.2.2.2.2.2.2.1, s.1.2.2.2.2.2.2.2.2.2.1, s.1.2.2.2.2.2.2.2.2.2.2.1, s.1.2.2.2.2.2.2.2.2.2.2.2.1, s.1.2.2.2.2.2.2.2.2.2.2.2.2.1, s.1.2.2.2.2.2.2.2.2.2.2.2.2.2), ((upd s.1.1 (Int32.toNatClampNeg s.2.1) s.2.2) (Int32.toNatClampNeg (20 : Int32))))))
def f_X6_wayWith (N : Nat) (V : Md) (p0 : Int32) : Option (Int32 × Md) := ((f_X6_putAside N V).bind fun o7 => (if ((upd o7.1 (Int32.toNatClampNeg (2 : Int32)) p0) (Int32.toNatClampNeg (9 : Int32))) = 0 then b_X6_wayWith_38 N V p0 (((upd o7.1 (Int32.toNatClampNeg (2 : Int32)) p0), o7.2.1, o7.2.2.1, o7.2.2.2.1, o7.2.2.2.2.1, o7.2.2.2.2.2.1, o7.2.2.2.2.2.2.1, o7.2.2.2.2.2.2.2.1, o7.2.2.2.2.2.2.2.2.1, o7.2.2.2.2.2.2.2.2.2.1, o7.2.2.2.2.2.2.2.2.2.2.1, o7.2.2.2.2.2.2.2.2.2.2.2.1, o7.2.2.2.2.2.2.2.2.2.2.2.2.1, o7.2.2.2.2.2.2.2.2.2.2.2.2.2), (9 : Int32), (1 : Int32)) else b_X6_wayWith_38 N V p0 (((upd o7.1 (Int32.toNatClampNeg (2 : Int32)) p0), o7.2.1, o7.2.2.1, o7.2.2.2.1, o7.2.2.2.2.1, o7.2.2.2.2.2.1, o7.2.2.2.2.2.2.1, o7.2.2.2.2.2.2.2.1, o7.2.2.2.2.2.2.2.2.1, o7.2.2.2.2.2.2.2.2.2.1, o7.2.2.2.2.2.2.2.2.2.2.1, o7.2.2.2.2.2.2.2.2.2.2.2.1, o7.2.2.2.2.2.2.2.2.2.2.2.2.1, o7.2.2.2.2.2.2.2.2.2.2.2.2.2), (9 : Int32), ((upd o7.1 (Int32.toNatClampNeg (2 : Int32)) p0) (Int32.toNatClampNeg (9 : Int32))))))
abbrev rm_X6_wayWith : Room := { frames := 6, cells := 0, slots := 0, locals := 132 }
set_option maxRecDepth 100000 in
theorem k_X6_wayWith : CF yX6_wayWith cX6_wayWith 4 (some .int) 1 := ⟨mt_788, mp_43, mt_13, mt_789, ⟨rfl, by decide +kernel, by decide +kernel, by decide +kernel⟩⟩
set_option maxHeartbeats 4000000 in
set_option maxRecDepth 100000 in
theorem c_X6_wayWith {E : Ev} {a : Nat → Nat} {V : Md} {p0 : Int32} {N : Nat} {o : Int32 × Md} (hf : f_X6_wayWith N V p0 = some o) : ∀ l, MG l yX6_wayWith cX6_wayWith 4 (some .int) rm_X6_wayWith E [.ref (a 0), .int p0] [md E a V] (fun v Y => v = some (.int o.1) ∧ Y = [md E a o.2]) := by
  refine MG.mk (own := RX6) (lv0 := [(0, .ref (a 0)), (1, .int p0)]) (by decide) rfl (Nat.le_of_ble_eq_true rfl) rfl (fun X C K I => ?_)
  have h47 : ∀ (n : Nat) (s : Md × Int32), lp (b_X6_wayWith_47 N V p0) n s = some o → G E X 4 [md E a s.1] 0 0 [(0, .ref (a 0)), (2, .int s.2)] [] 47 := lp_ind (by
    intro K47 hK47 s hf
    unfold b_X6_wayWith_47 at hf
    refine g_aload_n C dX6_wayWith_47 rfl 0 rfl ?_
    refine g_get (Cl := RX6) (T := TX6) (N := 14) C mi_X6 0 rfl (List.mem_of_getElem? (i := 0) rfl) rfl 0 (by decide) mt_589 rfl rfl dX6_wayWith_48 ?_
    refine g_bipush (v := (9 : Int32)) C dX6_wayWith_51 (by decide) ?_
    refine g_iald C 0 rfl (List.mem_of_getElem? (i := 1) rfl) (by show ¬ (_ ∨ _); decide) dX6_wayWith_53 ?_
    refine g_iconst (v := (1 : Int32)) C dX6_wayWith_54 (by decide) ?_
    refine g_icmp_ne (tgt := 65) C dX6_wayWith_55 (by decide) (fun c1 => ?_) (fun c1 => ?_)
    · have hf := (f_if hf).2 c1
      refine g_aload_n C dX6_wayWith_65 rfl 0 rfl ?_
      refine g_get (Cl := RX6) (T := TX6) (N := 14) C mi_X6 0 rfl (List.mem_of_getElem? (i := 0) rfl) rfl 0 (by decide) mt_589 rfl rfl dX6_wayWith_66 ?_
      refine g_bipush (v := (20 : Int32)) C dX6_wayWith_69 (by decide) ?_
      refine g_iald C 0 rfl (List.mem_of_getElem? (i := 1) rfl) (by show ¬ (_ ∨ _); decide) dX6_wayWith_71 ?_
      refine g_iload_n C dX6_wayWith_72 rfl 1 rfl ?_
      refine g_isub C dX6_wayWith_73 ?_
      refine g_istore_n (lv2 := [(3, .int ((s.1.1 (Int32.toNatClampNeg (20 : Int32))) - s.2)), (0, .ref (a 0)), (2, .int s.2)]) C dX6_wayWith_74 rfl (by decide) rfl ?_
      refine g_aload_n C dX6_wayWith_75 rfl 1 rfl ?_
      obtain ⟨o2, h3, hf⟩ := bind_s hf
      refine g_callV (As := []) (rest := []) C k_X6_bringBack (fun l => c_X6_bringBack (E := E) (a := a) (V := s.1) h3 l) mt_794 [0] rfl (by decide) ⟨_, _, _, _, List.mem_flatten.mpr ⟨_, List.mem_of_getElem? (i := 0) rfl, List.mem_of_getElem? (i := 0) rfl⟩, rfl⟩ rfl (Nat.le_of_ble_eq_true rfl) ⟨Nat.le_of_ble_eq_true rfl, Nat.le_of_ble_eq_true rfl, Nat.le_of_ble_eq_true rfl, Nat.le_of_ble_eq_true rfl⟩ dX6_wayWith_76 ?_
      rintro _ _ ⟨rfl, rfl⟩
      show G E X 4 [md E a o2] 0 0 [(3, .int ((s.1.1 (Int32.toNatClampNeg (20 : Int32))) - s.2)), (0, .ref (a 0)), (2, .int s.2)] [] 79
      refine g_iload_n C dX6_wayWith_79 rfl 0 rfl ?_
      obtain rfl := Option.some.inj hf
      exact g_iret C K dX6_wayWith_80 (Nat.le_of_ble_eq_true rfl) (Nat.le_of_ble_eq_true rfl) ⟨rfl, rfl⟩
    · have hf := (f_if hf).1 c1
      refine g_aload_n C dX6_wayWith_58 rfl 0 rfl ?_
      obtain ⟨o4, h5, hf⟩ := bind_s hf
      refine g_callV (As := []) (rest := []) C k_X6_goTick (fun l => c_X6_goTick (E := E) (a := a) (V := s.1) h5 l) mt_742 [0] rfl (by decide) ⟨_, _, _, _, List.mem_flatten.mpr ⟨_, List.mem_of_getElem? (i := 0) rfl, List.mem_of_getElem? (i := 0) rfl⟩, rfl⟩ rfl (Nat.le_of_ble_eq_true rfl) ⟨Nat.le_of_ble_eq_true rfl, Nat.le_of_ble_eq_true rfl, Nat.le_of_ble_eq_true rfl, Nat.le_of_ble_eq_true rfl⟩ dX6_wayWith_59 ?_
      rintro _ _ ⟨rfl, rfl⟩
      show G E X 4 [md E a o4] 0 0 [(0, .ref (a 0)), (2, .int s.2)] [] 62
      refine g_goto (tgt := 47) C dX6_wayWith_62 (by decide) ?_
      exact hK47 (o4, s.2) hf)
  have h38 : ∀ s : Md × Int32 × Int32, b_X6_wayWith_38 N V p0 s = some o → G E X 4 [md E a s.1] 0 0 [(0, .ref (a 0))] [.int s.2.2, .int s.2.1, .ref (a 1)] 38 := by
    intro s hf
    unfold b_X6_wayWith_38 at hf
    obtain ⟨i6, hf⟩ := ix_s hf
    refine g_iast (Y2 := [md E a ((upd s.1.1 (Int32.toNatClampNeg s.2.1) s.2.2), s.1.2.1, s.1.2.2.1, s.1.2.2.2.1, s.1.2.2.2.2.1, s.1.2.2.2.2.2.1, s.1.2.2.2.2.2.2.1, s.1.2.2.2.2.2.2.2.1, s.1.2.2.2.2.2.2.2.2.1, s.1.2.2.2.2.2.2.2.2.2.1, s.1.2.2.2.2.2.2.2.2.2.2.1, s.1.2.2.2.2.2.2.2.2.2.2.2.1, s.1.2.2.2.2.2.2.2.2.2.2.2.2.1, s.1.2.2.2.2.2.2.2.2.2.2.2.2.2)]) C 0 1 rfl rfl i6 dX6_wayWith_38 rfl ?_
    refine g_aload_n C dX6_wayWith_39 rfl 0 rfl ?_
    refine g_get (Cl := RX6) (T := TX6) (N := 14) C mi_X6 0 rfl (List.mem_of_getElem? (i := 0) rfl) rfl 0 (by decide) mt_589 rfl rfl dX6_wayWith_40 ?_
    refine g_bipush (v := (20 : Int32)) C dX6_wayWith_43 (by decide) ?_
    refine g_iald C 0 rfl (List.mem_of_getElem? (i := 1) rfl) (by show ¬ (_ ∨ _); decide) dX6_wayWith_45 ?_
    refine g_istore_n (lv2 := [(2, .int ((upd s.1.1 (Int32.toNatClampNeg s.2.1) s.2.2) (Int32.toNatClampNeg (20 : Int32)))), (0, .ref (a 0))]) C dX6_wayWith_46 rfl (by decide) rfl ?_
    refine g_sub (lv2 := [(0, .ref (a 0)), (2, .int ((upd s.1.1 (Int32.toNatClampNeg s.2.1) s.2.2) (Int32.toNatClampNeg (20 : Int32))))]) [1, 0] rfl ?_
    exact h47 N (((upd s.1.1 (Int32.toNatClampNeg s.2.1) s.2.2), s.1.2.1, s.1.2.2.1, s.1.2.2.2.1, s.1.2.2.2.2.1, s.1.2.2.2.2.2.1, s.1.2.2.2.2.2.2.1, s.1.2.2.2.2.2.2.2.1, s.1.2.2.2.2.2.2.2.2.1, s.1.2.2.2.2.2.2.2.2.2.1, s.1.2.2.2.2.2.2.2.2.2.2.1, s.1.2.2.2.2.2.2.2.2.2.2.2.1, s.1.2.2.2.2.2.2.2.2.2.2.2.2.1, s.1.2.2.2.2.2.2.2.2.2.2.2.2.2), ((upd s.1.1 (Int32.toNatClampNeg s.2.1) s.2.2) (Int32.toNatClampNeg (20 : Int32)))) hf
  unfold f_X6_wayWith at hf
  refine g_aload_n C dX6_wayWith_0 rfl 0 rfl ?_
  obtain ⟨o7, h8, hf⟩ := bind_s hf
  refine g_callV (As := []) (rest := []) C k_X6_putAside (fun l => c_X6_putAside (E := E) (a := a) (V := V) h8 l) mt_790 [0] rfl (by decide) ⟨_, _, _, _, List.mem_flatten.mpr ⟨_, List.mem_of_getElem? (i := 0) rfl, List.mem_of_getElem? (i := 0) rfl⟩, rfl⟩ rfl (Nat.le_of_ble_eq_true rfl) ⟨Nat.le_of_ble_eq_true rfl, Nat.le_of_ble_eq_true rfl, Nat.le_of_ble_eq_true rfl, Nat.le_of_ble_eq_true rfl⟩ dX6_wayWith_1 ?_
  rintro _ _ ⟨rfl, rfl⟩
  show G E X 4 [md E a o7] 0 0 [(0, .ref (a 0)), (1, .int p0)] [] 4
  refine g_aload_n C dX6_wayWith_4 rfl 0 rfl ?_
  refine g_get (Cl := RX6) (T := TX6) (N := 14) C mi_X6 0 rfl (List.mem_of_getElem? (i := 0) rfl) rfl 0 (by decide) mt_589 rfl rfl dX6_wayWith_5 ?_
  refine g_iconst (v := (2 : Int32)) C dX6_wayWith_8 (by decide) ?_
  refine g_iload_n C dX6_wayWith_9 rfl 1 rfl ?_
  refine g_iast (Y2 := [md E a ((upd o7.1 (Int32.toNatClampNeg (2 : Int32)) p0), o7.2.1, o7.2.2.1, o7.2.2.2.1, o7.2.2.2.2.1, o7.2.2.2.2.2.1, o7.2.2.2.2.2.2.1, o7.2.2.2.2.2.2.2.1, o7.2.2.2.2.2.2.2.2.1, o7.2.2.2.2.2.2.2.2.2.1, o7.2.2.2.2.2.2.2.2.2.2.1, o7.2.2.2.2.2.2.2.2.2.2.2.1, o7.2.2.2.2.2.2.2.2.2.2.2.2.1, o7.2.2.2.2.2.2.2.2.2.2.2.2.2)]) C 0 1 rfl rfl (by show ¬ (_ ∨ _); decide) dX6_wayWith_10 rfl ?_
  refine g_aload_n C dX6_wayWith_11 rfl 0 rfl ?_
  refine g_get (Cl := RX6) (T := TX6) (N := 14) C mi_X6 0 rfl (List.mem_of_getElem? (i := 0) rfl) rfl 0 (by decide) mt_589 rfl rfl dX6_wayWith_12 ?_
  refine g_bipush (v := (9 : Int32)) C dX6_wayWith_15 (by decide) ?_
  refine g_aload_n C dX6_wayWith_17 rfl 0 rfl ?_
  refine g_get (Cl := RX6) (T := TX6) (N := 14) C mi_X6 0 rfl (List.mem_of_getElem? (i := 0) rfl) rfl 0 (by decide) mt_589 rfl rfl dX6_wayWith_18 ?_
  refine g_bipush (v := (9 : Int32)) C dX6_wayWith_21 (by decide) ?_
  refine g_iald C 0 rfl (List.mem_of_getElem? (i := 1) rfl) (by show ¬ (_ ∨ _); decide) dX6_wayWith_23 ?_
  refine g_if_ne (tgt := 31) C dX6_wayWith_24 (by decide) (fun c9 => ?_) (fun c9 => ?_)
  · have hf := (f_if hf).2 c9
    refine g_aload_n C dX6_wayWith_31 rfl 0 rfl ?_
    refine g_get (Cl := RX6) (T := TX6) (N := 14) C mi_X6 0 rfl (List.mem_of_getElem? (i := 0) rfl) rfl 0 (by decide) mt_589 rfl rfl dX6_wayWith_32 ?_
    refine g_bipush (v := (9 : Int32)) C dX6_wayWith_35 (by decide) ?_
    refine g_iald C 0 rfl (List.mem_of_getElem? (i := 1) rfl) (by show ¬ (_ ∨ _); decide) dX6_wayWith_37 ?_
    refine g_sub (lv2 := [(0, .ref (a 0))]) [0] rfl ?_
    exact h38 (((upd o7.1 (Int32.toNatClampNeg (2 : Int32)) p0), o7.2.1, o7.2.2.1, o7.2.2.2.1, o7.2.2.2.2.1, o7.2.2.2.2.2.1, o7.2.2.2.2.2.2.1, o7.2.2.2.2.2.2.2.1, o7.2.2.2.2.2.2.2.2.1, o7.2.2.2.2.2.2.2.2.2.1, o7.2.2.2.2.2.2.2.2.2.2.1, o7.2.2.2.2.2.2.2.2.2.2.2.1, o7.2.2.2.2.2.2.2.2.2.2.2.2.1, o7.2.2.2.2.2.2.2.2.2.2.2.2.2), (9 : Int32), ((upd o7.1 (Int32.toNatClampNeg (2 : Int32)) p0) (Int32.toNatClampNeg (9 : Int32)))) hf
  · have hf := (f_if hf).1 c9
    refine g_iconst (v := (1 : Int32)) C dX6_wayWith_27 (by decide) ?_
    refine g_goto (tgt := 38) C dX6_wayWith_28 (by decide) ?_
    refine g_sub (lv2 := [(0, .ref (a 0))]) [0] rfl ?_
    exact h38 (((upd o7.1 (Int32.toNatClampNeg (2 : Int32)) p0), o7.2.1, o7.2.2.1, o7.2.2.2.1, o7.2.2.2.2.1, o7.2.2.2.2.2.1, o7.2.2.2.2.2.2.1, o7.2.2.2.2.2.2.2.1, o7.2.2.2.2.2.2.2.2.1, o7.2.2.2.2.2.2.2.2.2.1, o7.2.2.2.2.2.2.2.2.2.2.1, o7.2.2.2.2.2.2.2.2.2.2.2.1, o7.2.2.2.2.2.2.2.2.2.2.2.2.1, o7.2.2.2.2.2.2.2.2.2.2.2.2.2), (9 : Int32), (1 : Int32)) hf
def f_X6_way (N : Nat) (V : Md) : Option (Int32 × Md) := ((f_X6_wayWith N V (V.1 (Int32.toNatClampNeg (2 : Int32)))).bind fun o1 => some (o1.1, o1.2))
abbrev rm_X6_way : Room := { frames := 7, cells := 0, slots := 0, locals := 155 }
set_option maxRecDepth 100000 in
theorem k_X6_way : CF yX6_way cX6_way 1 (some .int) 0 := ⟨mt_783, mt_784, mt_13, mt_785, ⟨rfl, by decide +kernel, by decide +kernel, by decide +kernel⟩⟩
set_option maxHeartbeats 4000000 in
set_option maxRecDepth 100000 in
theorem c_X6_way {E : Ev} {a : Nat → Nat} {V : Md} {N : Nat} {o : Int32 × Md} (hf : f_X6_way N V = some o) : ∀ l, MG l yX6_way cX6_way 1 (some .int) rm_X6_way E [.ref (a 0)] [md E a V] (fun v Y => v = some (.int o.1) ∧ Y = [md E a o.2]) := by
  refine MG.mk (own := RX6) (lv0 := [(0, .ref (a 0))]) (by decide) rfl (Nat.le_of_ble_eq_true rfl) rfl (fun X C K I => ?_)
  unfold f_X6_way at hf
  refine g_aload_n C dX6_way_0 rfl 0 rfl ?_
  refine g_aload_n C dX6_way_1 rfl 0 rfl ?_
  refine g_get (Cl := RX6) (T := TX6) (N := 14) C mi_X6 0 rfl (List.mem_of_getElem? (i := 0) rfl) rfl 0 (by decide) mt_589 rfl rfl dX6_way_2 ?_
  refine g_iconst (v := (2 : Int32)) C dX6_way_5 (by decide) ?_
  refine g_iald C 0 rfl (List.mem_of_getElem? (i := 1) rfl) (by show ¬ (_ ∨ _); decide) dX6_way_6 ?_
  obtain ⟨o1, h2, hf⟩ := bind_s hf
  refine g_callV (As := [.int (V.1 (Int32.toNatClampNeg (2 : Int32)))]) (rest := []) C k_X6_wayWith (fun l => c_X6_wayWith (E := E) (a := a) (V := V) h2 l) mt_786 [0] rfl (by decide) ⟨_, _, _, _, List.mem_flatten.mpr ⟨_, List.mem_of_getElem? (i := 0) rfl, List.mem_of_getElem? (i := 0) rfl⟩, rfl⟩ rfl (Nat.le_of_ble_eq_true rfl) ⟨Nat.le_of_ble_eq_true rfl, Nat.le_of_ble_eq_true rfl, Nat.le_of_ble_eq_true rfl, Nat.le_of_ble_eq_true rfl⟩ dX6_way_7 ?_
  rintro _ _ ⟨rfl, rfl⟩
  show G E X 1 [md E a o1.2] 0 0 [(0, .ref (a 0))] [.int o1.1] 10
  obtain rfl := Option.some.inj hf
  exact g_iret C K dX6_way_10 (Nat.le_of_ble_eq_true rfl) (Nat.le_of_ble_eq_true rfl) ⟨rfl, rfl⟩
def b_X6_emptyIn_50 (N : Nat) (V : Md) (s : Md × Int32) : Option (Int32 × Md) := some (s.2, s.1)
def b_X6_emptyIn_33 (N : Nat) (V : Md) (s : Md × Int32) : Option (Int32 × Md) := ((f_X6_bringBack N s.1).bind fun o1 => (if s.2 ≤ (3000 : Int32) then b_X6_emptyIn_50 N V (o1, s.2) else b_X6_emptyIn_50 N V (o1, (-6 : Int32))))
def b_X6_emptyIn_6 (N : Nat) (V : Md) (K : (Md × Int32) → Option (Int32 × Md)) (s : Md × Int32) : Option (Int32 × Md) := (if (s.1.1 (Int32.toNatClampNeg (10 : Int32))) ≤ 0 then b_X6_emptyIn_33 N V (s.1, s.2) else (if (3000 : Int32) < s.2 then b_X6_emptyIn_33 N V (s.1, s.2) else ((f_X6_goTick N s.1).bind fun o6 => K (o6, (s.2 + (1 : Int32))))))
def f_X6_emptyIn (N : Nat) (V : Md) : Option (Int32 × Md) := ((f_X6_putAside N V).bind fun o8 => lp (b_X6_emptyIn_6 N V) N (o8, (0 : Int32)))
abbrev rm_X6_emptyIn : Room := { frames := 6, cells := 0, slots := 0, locals := 132 }
set_option maxRecDepth 100000 in
theorem k_X6_emptyIn : CF yX6_emptyIn cX6_emptyIn 2 (some .int) 0 := ⟨mt_799, mt_800, mt_13, mt_801, ⟨rfl, by decide +kernel, by decide +kernel, by decide +kernel⟩⟩
set_option maxHeartbeats 4000000 in
set_option maxRecDepth 100000 in
theorem c_X6_emptyIn {E : Ev} {a : Nat → Nat} {V : Md} {N : Nat} {o : Int32 × Md} (hf : f_X6_emptyIn N V = some o) : ∀ l, MG l yX6_emptyIn cX6_emptyIn 2 (some .int) rm_X6_emptyIn E [.ref (a 0)] [md E a V] (fun v Y => v = some (.int o.1) ∧ Y = [md E a o.2]) := by
  refine MG.mk (own := RX6) (lv0 := [(0, .ref (a 0))]) (by decide) rfl (Nat.le_of_ble_eq_true rfl) rfl (fun X C K I => ?_)
  have h50 : ∀ s : Md × Int32, b_X6_emptyIn_50 N V s = some o → G E X 2 [md E a s.1] 0 0 [] [.int s.2] 50 := by
    intro s hf
    unfold b_X6_emptyIn_50 at hf
    obtain rfl := Option.some.inj hf
    exact g_iret C K dX6_emptyIn_50 (Nat.le_of_ble_eq_true rfl) (Nat.le_of_ble_eq_true rfl) ⟨rfl, rfl⟩
  have h33 : ∀ s : Md × Int32, b_X6_emptyIn_33 N V s = some o → G E X 2 [md E a s.1] 0 0 [(0, .ref (a 0)), (1, .int s.2)] [] 33 := by
    intro s hf
    unfold b_X6_emptyIn_33 at hf
    refine g_aload_n C dX6_emptyIn_33 rfl 0 rfl ?_
    obtain ⟨o1, h2, hf⟩ := bind_s hf
    refine g_callV (As := []) (rest := []) C k_X6_bringBack (fun l => c_X6_bringBack (E := E) (a := a) (V := s.1) h2 l) mt_794 [0] rfl (by decide) ⟨_, _, _, _, List.mem_flatten.mpr ⟨_, List.mem_of_getElem? (i := 0) rfl, List.mem_of_getElem? (i := 0) rfl⟩, rfl⟩ rfl (Nat.le_of_ble_eq_true rfl) ⟨Nat.le_of_ble_eq_true rfl, Nat.le_of_ble_eq_true rfl, Nat.le_of_ble_eq_true rfl, Nat.le_of_ble_eq_true rfl⟩ dX6_emptyIn_34 ?_
    rintro _ _ ⟨rfl, rfl⟩
    show G E X 2 [md E a o1] 0 0 [(0, .ref (a 0)), (1, .int s.2)] [] 37
    refine g_iload_n C dX6_emptyIn_37 rfl 1 rfl ?_
    refine g_sipush (v := (3000 : Int32)) C dX6_emptyIn_38 (by decide) ?_
    refine g_icmp_le (tgt := 49) C dX6_emptyIn_41 (by decide) (fun c3 => ?_) (fun c3 => ?_)
    · have hf := (f_if hf).1 c3
      refine g_iload_n C dX6_emptyIn_49 rfl 1 rfl ?_
      refine g_sub (lv2 := []) [] rfl ?_
      exact h50 (o1, s.2) hf
    · have hf := (f_if hf).2 c3
      refine g_bipush (v := (-6 : Int32)) C dX6_emptyIn_44 (by decide) ?_
      refine g_goto (tgt := 50) C dX6_emptyIn_46 (by decide) ?_
      refine g_sub (lv2 := []) [] rfl ?_
      exact h50 (o1, (-6 : Int32)) hf
  have h6 : ∀ (n : Nat) (s : Md × Int32), lp (b_X6_emptyIn_6 N V) n s = some o → G E X 2 [md E a s.1] 0 0 [(0, .ref (a 0)), (1, .int s.2)] [] 6 := lp_ind (by
    intro K6 hK6 s hf
    unfold b_X6_emptyIn_6 at hf
    refine g_aload_n C dX6_emptyIn_6 rfl 0 rfl ?_
    refine g_get (Cl := RX6) (T := TX6) (N := 14) C mi_X6 0 rfl (List.mem_of_getElem? (i := 0) rfl) rfl 0 (by decide) mt_589 rfl rfl dX6_emptyIn_7 ?_
    refine g_bipush (v := (10 : Int32)) C dX6_emptyIn_10 (by decide) ?_
    refine g_iald C 0 rfl (List.mem_of_getElem? (i := 1) rfl) (by show ¬ (_ ∨ _); decide) dX6_emptyIn_12 ?_
    refine g_if_le (tgt := 33) C dX6_emptyIn_13 (by decide) (fun c4 => ?_) (fun c4 => ?_)
    · have hf := (f_if hf).1 c4
      exact h33 (s.1, s.2) hf
    · have hf := (f_if hf).2 c4
      refine g_iload_n C dX6_emptyIn_16 rfl 1 rfl ?_
      refine g_sipush (v := (3000 : Int32)) C dX6_emptyIn_17 (by decide) ?_
      refine g_icmp_gt (tgt := 33) C dX6_emptyIn_20 (by decide) (fun c5 => ?_) (fun c5 => ?_)
      · have hf := (f_if hf).1 c5
        exact h33 (s.1, s.2) hf
      · have hf := (f_if hf).2 c5
        refine g_aload_n C dX6_emptyIn_23 rfl 0 rfl ?_
        obtain ⟨o6, h7, hf⟩ := bind_s hf
        refine g_callV (As := []) (rest := []) C k_X6_goTick (fun l => c_X6_goTick (E := E) (a := a) (V := s.1) h7 l) mt_742 [0] rfl (by decide) ⟨_, _, _, _, List.mem_flatten.mpr ⟨_, List.mem_of_getElem? (i := 0) rfl, List.mem_of_getElem? (i := 0) rfl⟩, rfl⟩ rfl (Nat.le_of_ble_eq_true rfl) ⟨Nat.le_of_ble_eq_true rfl, Nat.le_of_ble_eq_true rfl, Nat.le_of_ble_eq_true rfl, Nat.le_of_ble_eq_true rfl⟩ dX6_emptyIn_24 ?_
        rintro _ _ ⟨rfl, rfl⟩
        show G E X 2 [md E a o6] 0 0 [(0, .ref (a 0)), (1, .int s.2)] [] 27
        refine g_iinc (v := (s.2 + (1 : Int32))) (lv2 := [(1, .int (s.2 + (1 : Int32))), (0, .ref (a 0))]) C dX6_emptyIn_27 1 rfl (ii (by decide)) (by decide) rfl ?_
        refine g_goto (tgt := 6) C dX6_emptyIn_30 (by decide) ?_
        refine g_sub (lv2 := [(0, .ref (a 0)), (1, .int (s.2 + (1 : Int32)))]) [1, 0] rfl ?_
        exact hK6 (o6, (s.2 + (1 : Int32))) hf)
  unfold f_X6_emptyIn at hf
  refine g_aload_n C dX6_emptyIn_0 rfl 0 rfl ?_
  obtain ⟨o8, h9, hf⟩ := bind_s hf
  refine g_callV (As := []) (rest := []) C k_X6_putAside (fun l => c_X6_putAside (E := E) (a := a) (V := V) h9 l) mt_790 [0] rfl (by decide) ⟨_, _, _, _, List.mem_flatten.mpr ⟨_, List.mem_of_getElem? (i := 0) rfl, List.mem_of_getElem? (i := 0) rfl⟩, rfl⟩ rfl (Nat.le_of_ble_eq_true rfl) ⟨Nat.le_of_ble_eq_true rfl, Nat.le_of_ble_eq_true rfl, Nat.le_of_ble_eq_true rfl, Nat.le_of_ble_eq_true rfl⟩ dX6_emptyIn_1 ?_
  rintro _ _ ⟨rfl, rfl⟩
  show G E X 2 [md E a o8] 0 0 [(0, .ref (a 0))] [] 4
  refine g_iconst (v := (0 : Int32)) C dX6_emptyIn_4 (by decide) ?_
  refine g_istore_n (lv2 := [(1, .int (0 : Int32)), (0, .ref (a 0))]) C dX6_emptyIn_5 rfl (by decide) rfl ?_
  refine g_sub (lv2 := [(0, .ref (a 0)), (1, .int (0 : Int32))]) [1, 0] rfl ?_
  exact h6 N (o8, (0 : Int32)) hf
def b_X6_leastRamp_39 (N : Nat) (V : Md) (p0 : Int32) (K : (Md × Int32 × Int32) → Option (Int32 × Md)) (s : Md × Int32 × Int32) : Option (Int32 × Md) := K (s.1, s.2.2, (s.2.1 - (1 : Int32)))
def b_X6_leastRamp_20 (N : Nat) (V : Md) (p0 : Int32) (K : (Md × Int32 × Int32) → Option (Int32 × Md)) (s : Md × Int32 × Int32) : Option (Int32 × Md) := (if s.2.2 < (1 : Int32) then some (s.2.1, s.1) else ((f_X6_wayWith N s.1 s.2.2).bind fun o2 => (if p0 < o2.1 then b_X6_leastRamp_39 N V p0 K (o2.2, s.2.2, s.2.1) else b_X6_leastRamp_39 N V p0 K (o2.2, s.2.2, s.2.2))))
def f_X6_leastRamp (N : Nat) (V : Md) (p0 : Int32) : Option (Int32 × Md) := ((f_X6_in p0 (0 : Int32) (9999 : Int32)).bind fun o5 => (if o5 = 0 then some ((-2 : Int32), V) else lp (b_X6_leastRamp_20 N V p0) N (V, (-6 : Int32), (30 : Int32))))
abbrev rm_X6_leastRamp : Room := { frames := 7, cells := 0, slots := 0, locals := 155 }
set_option maxRecDepth 100000 in
theorem k_X6_leastRamp : CF yX6_leastRamp cX6_leastRamp 4 (some .int) 1 := ⟨mt_803, mt_804, mt_13, mt_805, ⟨rfl, by decide +kernel, by decide +kernel, by decide +kernel⟩⟩
set_option maxHeartbeats 4000000 in
set_option maxRecDepth 100000 in
theorem c_X6_leastRamp {E : Ev} {a : Nat → Nat} {V : Md} {p0 : Int32} {N : Nat} {o : Int32 × Md} (hf : f_X6_leastRamp N V p0 = some o) : ∀ l, MG l yX6_leastRamp cX6_leastRamp 4 (some .int) rm_X6_leastRamp E [.ref (a 0), .int p0] [md E a V] (fun v Y => v = some (.int o.1) ∧ Y = [md E a o.2]) := by
  refine MG.mk (own := RX6) (lv0 := [(0, .ref (a 0)), (1, .int p0)]) (by decide) rfl (Nat.le_of_ble_eq_true rfl) rfl (fun X C K I => ?_)
  have h39 : ∀ (K : (Md × Int32 × Int32) → Option (Int32 × Md)), (∀ s : Md × Int32 × Int32, K s = some o → G E X 4 [md E a s.1] 0 0 [(0, .ref (a 0)), (1, .int p0), (2, .int s.2.1), (3, .int s.2.2)] [] 20) → ∀ s : Md × Int32 × Int32, b_X6_leastRamp_39 N V p0 K s = some o → G E X 4 [md E a s.1] 0 0 [(0, .ref (a 0)), (1, .int p0), (3, .int s.2.1)] [.int s.2.2] 39 := by
    intro K20 hK20 s hf
    unfold b_X6_leastRamp_39 at hf
    refine g_istore_n (lv2 := [(2, .int s.2.2), (0, .ref (a 0)), (1, .int p0), (3, .int s.2.1)]) C dX6_leastRamp_39 rfl (by decide) rfl ?_
    refine g_iinc (v := (s.2.1 - (1 : Int32))) (lv2 := [(3, .int (s.2.1 - (1 : Int32))), (2, .int s.2.2), (0, .ref (a 0)), (1, .int p0)]) C dX6_leastRamp_40 3 rfl dec1 (by decide) rfl ?_
    refine g_goto (tgt := 20) C dX6_leastRamp_43 (by decide) ?_
    refine g_sub (lv2 := [(0, .ref (a 0)), (1, .int p0), (2, .int s.2.2), (3, .int (s.2.1 - (1 : Int32)))]) [2, 3, 1, 0] rfl ?_
    exact hK20 (s.1, s.2.2, (s.2.1 - (1 : Int32))) hf
  have h20 : ∀ (n : Nat) (s : Md × Int32 × Int32), lp (b_X6_leastRamp_20 N V p0) n s = some o → G E X 4 [md E a s.1] 0 0 [(0, .ref (a 0)), (1, .int p0), (2, .int s.2.1), (3, .int s.2.2)] [] 20 := lp_ind (by
    intro K20 hK20 s hf
    unfold b_X6_leastRamp_20 at hf
    refine g_iload_n C dX6_leastRamp_20 rfl 3 rfl ?_
    refine g_iconst (v := (1 : Int32)) C dX6_leastRamp_21 (by decide) ?_
    refine g_icmp_lt (tgt := 46) C dX6_leastRamp_22 (by decide) (fun c1 => ?_) (fun c1 => ?_)
    · have hf := (f_if hf).1 c1
      refine g_iload_n C dX6_leastRamp_46 rfl 2 rfl ?_
      obtain rfl := Option.some.inj hf
      exact g_iret C K dX6_leastRamp_47 (Nat.le_of_ble_eq_true rfl) (Nat.le_of_ble_eq_true rfl) ⟨rfl, rfl⟩
    · have hf := (f_if hf).2 c1
      refine g_aload_n C dX6_leastRamp_25 rfl 0 rfl ?_
      refine g_iload_n C dX6_leastRamp_26 rfl 3 rfl ?_
      obtain ⟨o2, h3, hf⟩ := bind_s hf
      refine g_callV (As := [.int s.2.2]) (rest := []) C k_X6_wayWith (fun l => c_X6_wayWith (E := E) (a := a) (V := s.1) h3 l) mt_786 [0] rfl (by decide) ⟨_, _, _, _, List.mem_flatten.mpr ⟨_, List.mem_of_getElem? (i := 0) rfl, List.mem_of_getElem? (i := 0) rfl⟩, rfl⟩ rfl (Nat.le_of_ble_eq_true rfl) ⟨Nat.le_of_ble_eq_true rfl, Nat.le_of_ble_eq_true rfl, Nat.le_of_ble_eq_true rfl, Nat.le_of_ble_eq_true rfl⟩ dX6_leastRamp_27 ?_
      rintro _ _ ⟨rfl, rfl⟩
      show G E X 4 [md E a o2.2] 0 0 [(0, .ref (a 0)), (1, .int p0), (2, .int s.2.1), (3, .int s.2.2)] [.int o2.1] 30
      refine g_iload_n C dX6_leastRamp_30 rfl 1 rfl ?_
      refine g_icmp_gt (tgt := 38) C dX6_leastRamp_31 (by decide) (fun c4 => ?_) (fun c4 => ?_)
      · have hf := (f_if hf).1 c4
        refine g_iload_n C dX6_leastRamp_38 rfl 2 rfl ?_
        refine g_sub (lv2 := [(0, .ref (a 0)), (1, .int p0), (3, .int s.2.2)]) [0, 1, 3] rfl ?_
        exact h39 _ hK20 (o2.2, s.2.2, s.2.1) hf
      · have hf := (f_if hf).2 c4
        refine g_iload_n C dX6_leastRamp_34 rfl 3 rfl ?_
        refine g_goto (tgt := 39) C dX6_leastRamp_35 (by decide) ?_
        refine g_sub (lv2 := [(0, .ref (a 0)), (1, .int p0), (3, .int s.2.2)]) [0, 1, 3] rfl ?_
        exact h39 _ hK20 (o2.2, s.2.2, s.2.2) hf)
  unfold f_X6_leastRamp at hf
  refine g_iload_n C dX6_leastRamp_0 rfl 1 rfl ?_
  refine g_iconst (v := (0 : Int32)) C dX6_leastRamp_1 (by decide) ?_
  refine g_sipush (v := (9999 : Int32)) C dX6_leastRamp_2 (by decide) ?_
  obtain ⟨o5, h6, hf⟩ := bind_s hf
  refine g_callS (As := [.int p0, .int (0 : Int32), .int (9999 : Int32)]) (rest := []) C k_X6_in (fun l => c_X6_in (E := E) h6 l) mt_640 [] rfl (by decide) rfl (Nat.le_of_ble_eq_true rfl) ⟨Nat.le_of_ble_eq_true rfl, Nat.le_of_ble_eq_true rfl, Nat.le_of_ble_eq_true rfl, Nat.le_of_ble_eq_true rfl⟩ dX6_leastRamp_5 ?_
  rintro _ _ ⟨rfl, rfl⟩
  show G E X 4 [md E a V] 0 0 [(0, .ref (a 0)), (1, .int p0)] [.int o5] 8
  refine g_if_ne (tgt := 14) C dX6_leastRamp_8 (by decide) (fun c7 => ?_) (fun c7 => ?_)
  · have hf := (f_if hf).2 c7
    refine g_bipush (v := (-6 : Int32)) C dX6_leastRamp_14 (by decide) ?_
    refine g_istore_n (lv2 := [(2, .int (-6 : Int32)), (0, .ref (a 0)), (1, .int p0)]) C dX6_leastRamp_16 rfl (by decide) rfl ?_
    refine g_bipush (v := (30 : Int32)) C dX6_leastRamp_17 (by decide) ?_
    refine g_istore_n (lv2 := [(3, .int (30 : Int32)), (2, .int (-6 : Int32)), (0, .ref (a 0)), (1, .int p0)]) C dX6_leastRamp_19 rfl (by decide) rfl ?_
    refine g_sub (lv2 := [(0, .ref (a 0)), (1, .int p0), (2, .int (-6 : Int32)), (3, .int (30 : Int32))]) [2, 3, 1, 0] rfl ?_
    exact h20 N (V, (-6 : Int32), (30 : Int32)) hf
  · have hf := (f_if hf).1 c7
    refine g_bipush (v := (-2 : Int32)) C dX6_leastRamp_11 (by decide) ?_
    obtain rfl := Option.some.inj hf
    exact g_iret C K dX6_leastRamp_13 (Nat.le_of_ble_eq_true rfl) (Nat.le_of_ble_eq_true rfl) ⟨rfl, rfl⟩
def b_X6_wouldHold_27 (N : Nat) (V : Md) (p0 : Int32) (s : Md × Int32) : Option (Int32 × Md) := some (s.2, s.1)
def f_X6_wouldHold (N : Nat) (V : Md) (p0 : Int32) : Option (Int32 × Md) := ((f_X6_in p0 (0 : Int32) (255 : Int32)).bind fun o1 => (if o1 = 0 then some ((-2 : Int32), V) else ((f_X6_holdsWith N V p0).bind fun o4 => (if o4.1 = 0 then b_X6_wouldHold_27 N V p0 (o4.2, (0 : Int32)) else b_X6_wouldHold_27 N V p0 (o4.2, (1 : Int32))))))
abbrev rm_X6_wouldHold : Room := { frames := 4, cells := 0, slots := 0, locals := 89 }
set_option maxRecDepth 100000 in
theorem k_X6_wouldHold : CF yX6_wouldHold cX6_wouldHold 2 (some .int) 1 := ⟨mt_807, mt_808, mt_13, mt_809, ⟨rfl, by decide +kernel, by decide +kernel, by decide +kernel⟩⟩
set_option maxHeartbeats 4000000 in
set_option maxRecDepth 100000 in
theorem c_X6_wouldHold {E : Ev} {a : Nat → Nat} {V : Md} {p0 : Int32} {N : Nat} {o : Int32 × Md} (hf : f_X6_wouldHold N V p0 = some o) : ∀ l, MG l yX6_wouldHold cX6_wouldHold 2 (some .int) rm_X6_wouldHold E [.ref (a 0), .int p0] [md E a V] (fun v Y => v = some (.int o.1) ∧ Y = [md E a o.2]) := by
  refine MG.mk (own := RX6) (lv0 := [(0, .ref (a 0)), (1, .int p0)]) (by decide) rfl (Nat.le_of_ble_eq_true rfl) rfl (fun X C K I => ?_)
  have h27 : ∀ s : Md × Int32, b_X6_wouldHold_27 N V p0 s = some o → G E X 2 [md E a s.1] 0 0 [] [.int s.2] 27 := by
    intro s hf
    unfold b_X6_wouldHold_27 at hf
    obtain rfl := Option.some.inj hf
    exact g_iret C K dX6_wouldHold_27 (Nat.le_of_ble_eq_true rfl) (Nat.le_of_ble_eq_true rfl) ⟨rfl, rfl⟩
  unfold f_X6_wouldHold at hf
  refine g_iload_n C dX6_wouldHold_0 rfl 1 rfl ?_
  refine g_iconst (v := (0 : Int32)) C dX6_wouldHold_1 (by decide) ?_
  refine g_sipush (v := (255 : Int32)) C dX6_wouldHold_2 (by decide) ?_
  obtain ⟨o1, h2, hf⟩ := bind_s hf
  refine g_callS (As := [.int p0, .int (0 : Int32), .int (255 : Int32)]) (rest := []) C k_X6_in (fun l => c_X6_in (E := E) h2 l) mt_640 [] rfl (by decide) rfl (Nat.le_of_ble_eq_true rfl) ⟨Nat.le_of_ble_eq_true rfl, Nat.le_of_ble_eq_true rfl, Nat.le_of_ble_eq_true rfl, Nat.le_of_ble_eq_true rfl⟩ dX6_wouldHold_5 ?_
  rintro _ _ ⟨rfl, rfl⟩
  show G E X 2 [md E a V] 0 0 [(0, .ref (a 0)), (1, .int p0)] [.int o1] 8
  refine g_if_ne (tgt := 14) C dX6_wouldHold_8 (by decide) (fun c3 => ?_) (fun c3 => ?_)
  · have hf := (f_if hf).2 c3
    refine g_aload_n C dX6_wouldHold_14 rfl 0 rfl ?_
    refine g_iload_n C dX6_wouldHold_15 rfl 1 rfl ?_
    obtain ⟨o4, h5, hf⟩ := bind_s hf
    refine g_callV (As := [.int p0]) (rest := []) C k_X6_holdsWith (fun l => c_X6_holdsWith (E := E) (a := a) (V := V) h5 l) mt_733 [0] rfl (by decide) ⟨_, _, _, _, List.mem_flatten.mpr ⟨_, List.mem_of_getElem? (i := 0) rfl, List.mem_of_getElem? (i := 0) rfl⟩, rfl⟩ rfl (Nat.le_of_ble_eq_true rfl) ⟨Nat.le_of_ble_eq_true rfl, Nat.le_of_ble_eq_true rfl, Nat.le_of_ble_eq_true rfl, Nat.le_of_ble_eq_true rfl⟩ dX6_wouldHold_16 ?_
    rintro _ _ ⟨rfl, rfl⟩
    show G E X 2 [md E a o4.2] 0 0 [(0, .ref (a 0)), (1, .int p0)] [.int o4.1] 19
    refine g_if_eq (tgt := 26) C dX6_wouldHold_19 (by decide) (fun c6 => ?_) (fun c6 => ?_)
    · have hf := (f_if hf).1 c6
      refine g_iconst (v := (0 : Int32)) C dX6_wouldHold_26 (by decide) ?_
      refine g_sub (lv2 := []) [] rfl ?_
      exact h27 (o4.2, (0 : Int32)) hf
    · have hf := (f_if hf).2 c6
      refine g_iconst (v := (1 : Int32)) C dX6_wouldHold_22 (by decide) ?_
      refine g_goto (tgt := 27) C dX6_wouldHold_23 (by decide) ?_
      refine g_sub (lv2 := []) [] rfl ?_
      exact h27 (o4.2, (1 : Int32)) hf
  · have hf := (f_if hf).1 c3
    refine g_bipush (v := (-2 : Int32)) C dX6_wouldHold_11 (by decide) ?_
    obtain rfl := Option.some.inj hf
    exact g_iret C K dX6_wouldHold_13 (Nat.le_of_ble_eq_true rfl) (Nat.le_of_ble_eq_true rfl) ⟨rfl, rfl⟩
def b_X6_fewest_39 (N : Nat) (V : Md) (K : (Md × Int32 × Int32) → Option (Int32 × Md)) (s : Md × Int32 × Int32) : Option (Int32 × Md) := K (s.1, s.2.1, (s.2.2 + (1 : Int32)))
def b_X6_fewest_37 (N : Nat) (V : Md) (K : (Md × Int32 × Int32) → Option (Int32 × Md)) (s : Md × Int32) : Option (Int32 × Md) := b_X6_fewest_39 N V K (s.1, s.2, s.2)
def b_X6_fewest_5 (N : Nat) (V : Md) (K : (Md × Int32 × Int32) → Option (Int32 × Md)) (s : Md × Int32 × Int32) : Option (Int32 × Md) := (if (256 : Int32) ≤ s.2.2 then some (s.2.1, s.1) else ((f_X6_holdsWith N s.1 s.2.2).bind fun o2 => (if o2.1 = 0 then b_X6_fewest_39 N V K (o2.2, s.2.1, s.2.2) else (if s.2.1 = (-6 : Int32) then b_X6_fewest_37 N V K (o2.2, s.2.2) else ((f_X6_bits N s.2.2).bind fun o6 => ((f_X6_bits N s.2.1).bind fun o8 => (if o8 ≤ o6 then b_X6_fewest_39 N V K (o2.2, s.2.1, s.2.2) else b_X6_fewest_37 N V K (o2.2, s.2.2))))))))
def f_X6_fewest (N : Nat) (V : Md) : Option (Int32 × Md) := lp (b_X6_fewest_5 N V) N (V, (-6 : Int32), (0 : Int32))
abbrev rm_X6_fewest : Room := { frames := 4, cells := 0, slots := 0, locals := 89 }
set_option maxRecDepth 100000 in
theorem k_X6_fewest : CF yX6_fewest cX6_fewest 3 (some .int) 0 := ⟨mt_811, mt_812, mt_13, mt_813, ⟨rfl, by decide +kernel, by decide +kernel, by decide +kernel⟩⟩
set_option maxHeartbeats 4000000 in
set_option maxRecDepth 100000 in
theorem c_X6_fewest {E : Ev} {a : Nat → Nat} {V : Md} {N : Nat} {o : Int32 × Md} (hf : f_X6_fewest N V = some o) : ∀ l, MG l yX6_fewest cX6_fewest 3 (some .int) rm_X6_fewest E [.ref (a 0)] [md E a V] (fun v Y => v = some (.int o.1) ∧ Y = [md E a o.2]) := by
  refine MG.mk (own := RX6) (lv0 := [(0, .ref (a 0))]) (by decide) rfl (Nat.le_of_ble_eq_true rfl) rfl (fun X C K I => ?_)
  have h39 : ∀ (K : (Md × Int32 × Int32) → Option (Int32 × Md)), (∀ s : Md × Int32 × Int32, K s = some o → G E X 3 [md E a s.1] 0 0 [(0, .ref (a 0)), (1, .int s.2.1), (2, .int s.2.2)] [] 5) → ∀ s : Md × Int32 × Int32, b_X6_fewest_39 N V K s = some o → G E X 3 [md E a s.1] 0 0 [(0, .ref (a 0)), (1, .int s.2.1), (2, .int s.2.2)] [] 39 := by
    intro K5 hK5 s hf
    unfold b_X6_fewest_39 at hf
    refine g_iinc (v := (s.2.2 + (1 : Int32))) (lv2 := [(2, .int (s.2.2 + (1 : Int32))), (0, .ref (a 0)), (1, .int s.2.1)]) C dX6_fewest_39 2 rfl (ii (by decide)) (by decide) rfl ?_
    refine g_goto (tgt := 5) C dX6_fewest_42 (by decide) ?_
    refine g_sub (lv2 := [(0, .ref (a 0)), (1, .int s.2.1), (2, .int (s.2.2 + (1 : Int32)))]) [1, 2, 0] rfl ?_
    exact hK5 (s.1, s.2.1, (s.2.2 + (1 : Int32))) hf
  have h37 : ∀ (K : (Md × Int32 × Int32) → Option (Int32 × Md)), (∀ s : Md × Int32 × Int32, K s = some o → G E X 3 [md E a s.1] 0 0 [(0, .ref (a 0)), (1, .int s.2.1), (2, .int s.2.2)] [] 5) → ∀ s : Md × Int32, b_X6_fewest_37 N V K s = some o → G E X 3 [md E a s.1] 0 0 [(0, .ref (a 0)), (2, .int s.2)] [] 37 := by
    intro K5 hK5 s hf
    unfold b_X6_fewest_37 at hf
    refine g_iload_n C dX6_fewest_37 rfl 1 rfl ?_
    refine g_istore_n (lv2 := [(1, .int s.2), (0, .ref (a 0)), (2, .int s.2)]) C dX6_fewest_38 rfl (by decide) rfl ?_
    refine g_sub (lv2 := [(0, .ref (a 0)), (1, .int s.2), (2, .int s.2)]) [1, 0, 2] rfl ?_
    exact h39 _ hK5 (s.1, s.2, s.2) hf
  have h5 : ∀ (n : Nat) (s : Md × Int32 × Int32), lp (b_X6_fewest_5 N V) n s = some o → G E X 3 [md E a s.1] 0 0 [(0, .ref (a 0)), (1, .int s.2.1), (2, .int s.2.2)] [] 5 := lp_ind (by
    intro K5 hK5 s hf
    unfold b_X6_fewest_5 at hf
    refine g_iload_n C dX6_fewest_5 rfl 2 rfl ?_
    refine g_sipush (v := (256 : Int32)) C dX6_fewest_6 (by decide) ?_
    refine g_icmp_ge (tgt := 45) C dX6_fewest_9 (by decide) (fun c1 => ?_) (fun c1 => ?_)
    · have hf := (f_if hf).1 c1
      refine g_iload_n C dX6_fewest_45 rfl 1 rfl ?_
      obtain rfl := Option.some.inj hf
      exact g_iret C K dX6_fewest_46 (Nat.le_of_ble_eq_true rfl) (Nat.le_of_ble_eq_true rfl) ⟨rfl, rfl⟩
    · have hf := (f_if hf).2 c1
      refine g_aload_n C dX6_fewest_12 rfl 0 rfl ?_
      refine g_iload_n C dX6_fewest_13 rfl 2 rfl ?_
      obtain ⟨o2, h3, hf⟩ := bind_s hf
      refine g_callV (As := [.int s.2.2]) (rest := []) C k_X6_holdsWith (fun l => c_X6_holdsWith (E := E) (a := a) (V := s.1) h3 l) mt_733 [0] rfl (by decide) ⟨_, _, _, _, List.mem_flatten.mpr ⟨_, List.mem_of_getElem? (i := 0) rfl, List.mem_of_getElem? (i := 0) rfl⟩, rfl⟩ rfl (Nat.le_of_ble_eq_true rfl) ⟨Nat.le_of_ble_eq_true rfl, Nat.le_of_ble_eq_true rfl, Nat.le_of_ble_eq_true rfl, Nat.le_of_ble_eq_true rfl⟩ dX6_fewest_14 ?_
      rintro _ _ ⟨rfl, rfl⟩
      show G E X 3 [md E a o2.2] 0 0 [(0, .ref (a 0)), (1, .int s.2.1), (2, .int s.2.2)] [.int o2.1] 17
      refine g_if_eq (tgt := 39) C dX6_fewest_17 (by decide) (fun c4 => ?_) (fun c4 => ?_)
      · have hf := (f_if hf).1 c4
        exact h39 _ hK5 (o2.2, s.2.1, s.2.2) hf
      · have hf := (f_if hf).2 c4
        refine g_iload_n C dX6_fewest_20 rfl 1 rfl ?_
        refine g_bipush (v := (-6 : Int32)) C dX6_fewest_21 (by decide) ?_
        refine g_icmp_eq (tgt := 37) C dX6_fewest_23 (by decide) (fun c5 => ?_) (fun c5 => ?_)
        · have hf := (f_if hf).1 c5
          refine g_sub (lv2 := [(0, .ref (a 0)), (2, .int s.2.2)]) [0, 2] rfl ?_
          exact h37 _ hK5 (o2.2, s.2.2) hf
        · have hf := (f_if hf).2 c5
          refine g_iload_n C dX6_fewest_26 rfl 2 rfl ?_
          obtain ⟨o6, h7, hf⟩ := bind_s hf
          refine g_callS (As := [.int s.2.2]) (rest := []) C k_X6_bits (fun l => c_X6_bits (E := E) h7 l) mt_814 [] rfl (by decide) rfl (Nat.le_of_ble_eq_true rfl) ⟨Nat.le_of_ble_eq_true rfl, Nat.le_of_ble_eq_true rfl, Nat.le_of_ble_eq_true rfl, Nat.le_of_ble_eq_true rfl⟩ dX6_fewest_27 ?_
          rintro _ _ ⟨rfl, rfl⟩
          show G E X 3 [md E a o2.2] 0 0 [(0, .ref (a 0)), (1, .int s.2.1), (2, .int s.2.2)] [.int o6] 30
          refine g_iload_n C dX6_fewest_30 rfl 1 rfl ?_
          obtain ⟨o8, h9, hf⟩ := bind_s hf
          refine g_callS (As := [.int s.2.1]) (rest := [.int o6]) C k_X6_bits (fun l => c_X6_bits (E := E) h9 l) mt_814 [] rfl (by decide) rfl (Nat.le_of_ble_eq_true rfl) ⟨Nat.le_of_ble_eq_true rfl, Nat.le_of_ble_eq_true rfl, Nat.le_of_ble_eq_true rfl, Nat.le_of_ble_eq_true rfl⟩ dX6_fewest_31 ?_
          rintro _ _ ⟨rfl, rfl⟩
          show G E X 3 [md E a o2.2] 0 0 [(0, .ref (a 0)), (1, .int s.2.1), (2, .int s.2.2)] [.int o8, .int o6] 34
          refine g_icmp_ge (tgt := 39) C dX6_fewest_34 (by decide) (fun c10 => ?_) (fun c10 => ?_)
          · have hf := (f_if hf).1 c10
            exact h39 _ hK5 (o2.2, s.2.1, s.2.2) hf
          · have hf := (f_if hf).2 c10
            refine g_sub (lv2 := [(0, .ref (a 0)), (2, .int s.2.2)]) [0, 2] rfl ?_
            exact h37 _ hK5 (o2.2, s.2.2) hf)
  unfold f_X6_fewest at hf
  refine g_bipush (v := (-6 : Int32)) C dX6_fewest_0 (by decide) ?_
  refine g_istore_n (lv2 := [(1, .int (-6 : Int32)), (0, .ref (a 0))]) C dX6_fewest_2 rfl (by decide) rfl ?_
  refine g_iconst (v := (0 : Int32)) C dX6_fewest_3 (by decide) ?_
  refine g_istore_n (lv2 := [(2, .int (0 : Int32)), (1, .int (-6 : Int32)), (0, .ref (a 0))]) C dX6_fewest_4 rfl (by decide) rfl ?_
  refine g_sub (lv2 := [(0, .ref (a 0)), (1, .int (-6 : Int32)), (2, .int (0 : Int32))]) [2, 1, 0] rfl ?_
  exact h5 N (V, (-6 : Int32), (0 : Int32)) hf
def b_X6_put_80 (N : Nat) (V : Md) (p0 : Int64) (K : (Md × Int32) → Option (Int32 × Md)) (s : Md × Int32) : Option (Int32 × Md) := (if s.2 < 0 then some (s.1.2.2.2.2.2.2.2.1, s.1) else (ix s.1.2.2.2.2.2.2.2.1 60 (K ((s.1.1, s.1.2.1, s.1.2.2.1, s.1.2.2.2.1, s.1.2.2.2.2.1, s.1.2.2.2.2.2.1, (upd s.1.2.2.2.2.2.2.1 (Int32.toNatClampNeg s.1.2.2.2.2.2.2.2.1) (vp_nar .char ((Int32.toUInt32 (Int64.toInt32 ((Int64.toUInt64 p0 >>> ((Int32.toInt64 ((8 : Int32) * s.2)).toUInt64 &&& Int64.toUInt64 63)).toInt64 &&& (255 : Int64))) % 65536).toInt32))), (s.1.2.2.2.2.2.2.2.1 + (1 : Int32)), s.1.2.2.2.2.2.2.2.2.1, s.1.2.2.2.2.2.2.2.2.2.1, s.1.2.2.2.2.2.2.2.2.2.2.1, s.1.2.2.2.2.2.2.2.2.2.2.2.1, s.1.2.2.2.2.2.2.2.2.2.2.2.2.1, s.1.2.2.2.2.2.2.2.2.2.2.2.2.2), (s.2 - (1 : Int32))))))
def b_X6_put_58 (N : Nat) (V : Md) (p0 : Int64) (s : Unit) : Option (Int32 × Md) := some ((-2 : Int32), V)
def b_X6_put_49 (N : Nat) (V : Md) (p0 : Int64) (s : Int32 × Int32) : Option (Int32 × Md) := (if s.1 = 0 then b_X6_put_58 N V p0 () else (if s.2 = 0 then b_X6_put_58 N V p0 () else (if (V.2.2.2.2.2.2.2.1 + s.1) ≤ (60 : Int32) then lp (b_X6_put_80 N V p0) N (V, (s.1 - (1 : Int32))) else some ((-4 : Int32), V))))
def b_X6_put_8 (N : Nat) (V : Md) (p0 : Int64) (K : (Int32 × Int64 × Int32) → Option (Int32 × Md)) (s : Int32 × Int64 × Int32) : Option (Int32 × Md) := (if (lg_cmp s.2.1 (0 : Int64)) = 0 then b_X6_put_49 N V p0 (s.1, s.2.2) else (if s.2.2 = 0 then b_X6_put_49 N V p0 (s.1, s.2.2) else ((f_X6_in (Int64.toInt32 (s.2.1 &&& (255 : Int64))) (33 : Int32) (126 : Int32)).bind fun o8 => K ((s.1 + (1 : Int32)), (Int64.toUInt64 s.2.1 >>> ((Int32.toInt64 (8 : Int32)).toUInt64 &&& Int64.toUInt64 63)).toInt64, o8))))
def f_X6_put (N : Nat) (V : Md) (p0 : Int64) : Option (Int32 × Md) := lp (b_X6_put_8 N V p0) N ((0 : Int32), p0, (1 : Int32))
abbrev rm_X6_put : Room := { frames := 1, cells := 0, slots := 0, locals := 22 }
set_option maxRecDepth 100000 in
theorem k_X6_put : CF yX6_put cX6_put 8 (some .int) 1 := ⟨mt_818, mt_819, mt_13, mt_820, ⟨rfl, by decide +kernel, by decide +kernel, by decide +kernel⟩⟩
set_option maxHeartbeats 4000000 in
set_option maxRecDepth 100000 in
theorem c_X6_put {E : Ev} {a : Nat → Nat} {V : Md} {p0 : Int64} {N : Nat} {o : Int32 × Md} (hf : f_X6_put N V p0 = some o) : ∀ l, MG l yX6_put cX6_put 8 (some .int) rm_X6_put E [.ref (a 0), .long p0] [md E a V] (fun v Y => v = some (.int o.1) ∧ Y = [md E a o.2]) := by
  refine MG.mk (own := RX6) (lv0 := [(0, .ref (a 0)), (1, .long p0)]) (by decide) rfl (Nat.le_of_ble_eq_true rfl) rfl (fun X C K I => ?_)
  have h80 : ∀ (n : Nat) (s : Md × Int32), lp (b_X6_put_80 N V p0) n s = some o → G E X 8 [md E a s.1] 0 0 [(0, .ref (a 0)), (1, .long p0), (7, .int s.2)] [] 80 := lp_ind (by
    intro K80 hK80 s hf
    unfold b_X6_put_80 at hf
    refine g_iload C dX6_put_80 2 rfl ?_
    refine g_if_lt (tgt := 123) C dX6_put_82 (by decide) (fun c1 => ?_) (fun c1 => ?_)
    · have hf := (f_if hf).1 c1
      refine g_aload_n C dX6_put_123 rfl 0 rfl ?_
      refine g_get (Cl := RX6) (T := TX6) (N := 14) C mi_X6 0 rfl (List.mem_of_getElem? (i := 0) rfl) rfl 7 (by decide) mt_596 rfl rfl dX6_put_124 ?_
      obtain rfl := Option.some.inj hf
      exact g_iret C K dX6_put_127 (Nat.le_of_ble_eq_true rfl) (Nat.le_of_ble_eq_true rfl) ⟨rfl, rfl⟩
    · have hf := (f_if hf).2 c1
      refine g_aload_n C dX6_put_85 rfl 0 rfl ?_
      refine g_get (Cl := RX6) (T := TX6) (N := 14) C mi_X6 0 rfl (List.mem_of_getElem? (i := 0) rfl) rfl 6 (by decide) mt_595 rfl rfl dX6_put_86 ?_
      refine g_aload_n C dX6_put_89 rfl 0 rfl ?_
      refine g_get (Cl := RX6) (T := TX6) (N := 14) C mi_X6 0 rfl (List.mem_of_getElem? (i := 0) rfl) rfl 7 (by decide) mt_596 rfl rfl dX6_put_90 ?_
      refine g_lload_n C dX6_put_93 rfl 1 rfl ?_
      refine g_bipush (v := (8 : Int32)) C dX6_put_94 (by decide) ?_
      refine g_iload C dX6_put_96 2 rfl ?_
      refine g_imul C dX6_put_98 ?_
      refine g_lushr C dX6_put_99 ?_
      refine g_ldc2 C mt_821 dX6_put_100 ?_
      refine g_land C dX6_put_103 ?_
      refine g_l2i C dX6_put_104 ?_
      refine g_i2c C dX6_put_105 ?_
      obtain ⟨i2, hf⟩ := ix_s hf
      refine g_cast (Y2 := [md E a (s.1.1, s.1.2.1, s.1.2.2.1, s.1.2.2.2.1, s.1.2.2.2.2.1, s.1.2.2.2.2.2.1, (upd s.1.2.2.2.2.2.2.1 (Int32.toNatClampNeg s.1.2.2.2.2.2.2.2.1) (vp_nar .char ((Int32.toUInt32 (Int64.toInt32 ((Int64.toUInt64 p0 >>> ((Int32.toInt64 ((8 : Int32) * s.2)).toUInt64 &&& Int64.toUInt64 63)).toInt64 &&& (255 : Int64))) % 65536).toInt32))), s.1.2.2.2.2.2.2.2.1, s.1.2.2.2.2.2.2.2.2.1, s.1.2.2.2.2.2.2.2.2.2.1, s.1.2.2.2.2.2.2.2.2.2.2.1, s.1.2.2.2.2.2.2.2.2.2.2.2.1, s.1.2.2.2.2.2.2.2.2.2.2.2.2.1, s.1.2.2.2.2.2.2.2.2.2.2.2.2.2)]) C 0 6 rfl rfl i2 dX6_put_106 rfl ?_
      refine g_aload_n C dX6_put_107 rfl 0 rfl ?_
      refine g_dup C dX6_put_108 rfl ?_
      refine g_get (Cl := RX6) (T := TX6) (N := 14) C mi_X6 0 rfl (List.mem_of_getElem? (i := 0) rfl) rfl 7 (by decide) mt_596 rfl rfl dX6_put_109 ?_
      refine g_iconst (v := (1 : Int32)) C dX6_put_112 (by decide) ?_
      refine g_iadd C dX6_put_113 ?_
      refine g_put (Cl := RX6) (T := TX6) (N := 14) (Y2 := [md E a (s.1.1, s.1.2.1, s.1.2.2.1, s.1.2.2.2.1, s.1.2.2.2.2.1, s.1.2.2.2.2.2.1, (upd s.1.2.2.2.2.2.2.1 (Int32.toNatClampNeg s.1.2.2.2.2.2.2.2.1) (vp_nar .char ((Int32.toUInt32 (Int64.toInt32 ((Int64.toUInt64 p0 >>> ((Int32.toInt64 ((8 : Int32) * s.2)).toUInt64 &&& Int64.toUInt64 63)).toInt64 &&& (255 : Int64))) % 65536).toInt32))), (s.1.2.2.2.2.2.2.2.1 + (1 : Int32)), s.1.2.2.2.2.2.2.2.2.1, s.1.2.2.2.2.2.2.2.2.2.1, s.1.2.2.2.2.2.2.2.2.2.2.1, s.1.2.2.2.2.2.2.2.2.2.2.2.1, s.1.2.2.2.2.2.2.2.2.2.2.2.2.1, s.1.2.2.2.2.2.2.2.2.2.2.2.2.2)]) C mi_X6 tyX6_ok nmX6 0 0 rfl rfl rfl 7 (by decide) mt_596 rfl rfl rfl rfl rfl (Nat.le_of_ble_eq_true rfl) dX6_put_114 rfl ?_
      refine g_iinc (v := (s.2 - (1 : Int32))) (lv2 := [(7, .int (s.2 - (1 : Int32))), (0, .ref (a 0)), (1, .long p0)]) C dX6_put_117 2 rfl dec1 (by decide) rfl ?_
      refine g_goto (tgt := 80) C dX6_put_120 (by decide) ?_
      refine g_sub (lv2 := [(0, .ref (a 0)), (1, .long p0), (7, .int (s.2 - (1 : Int32)))]) [1, 2, 0] rfl ?_
      exact hK80 ((s.1.1, s.1.2.1, s.1.2.2.1, s.1.2.2.2.1, s.1.2.2.2.2.1, s.1.2.2.2.2.2.1, (upd s.1.2.2.2.2.2.2.1 (Int32.toNatClampNeg s.1.2.2.2.2.2.2.2.1) (vp_nar .char ((Int32.toUInt32 (Int64.toInt32 ((Int64.toUInt64 p0 >>> ((Int32.toInt64 ((8 : Int32) * s.2)).toUInt64 &&& Int64.toUInt64 63)).toInt64 &&& (255 : Int64))) % 65536).toInt32))), (s.1.2.2.2.2.2.2.2.1 + (1 : Int32)), s.1.2.2.2.2.2.2.2.2.1, s.1.2.2.2.2.2.2.2.2.2.1, s.1.2.2.2.2.2.2.2.2.2.2.1, s.1.2.2.2.2.2.2.2.2.2.2.2.1, s.1.2.2.2.2.2.2.2.2.2.2.2.2.1, s.1.2.2.2.2.2.2.2.2.2.2.2.2.2), (s.2 - (1 : Int32))) hf)
  have h58 : ∀ s : Unit, b_X6_put_58 N V p0 s = some o → G E X 8 [md E a V] 0 0 [] [] 58 := by
    intro s hf
    unfold b_X6_put_58 at hf
    refine g_bipush (v := (-2 : Int32)) C dX6_put_58 (by decide) ?_
    obtain rfl := Option.some.inj hf
    exact g_iret C K dX6_put_60 (Nat.le_of_ble_eq_true rfl) (Nat.le_of_ble_eq_true rfl) ⟨rfl, rfl⟩
  have h49 : ∀ s : Int32 × Int32, b_X6_put_49 N V p0 s = some o → G E X 8 [md E a V] 0 0 [(0, .ref (a 0)), (1, .long p0), (3, .int s.1), (6, .int s.2)] [] 49 := by
    intro s hf
    unfold b_X6_put_49 at hf
    refine g_iload_n C dX6_put_49 rfl 2 rfl ?_
    refine g_if_eq (tgt := 58) C dX6_put_50 (by decide) (fun c3 => ?_) (fun c3 => ?_)
    · have hf := (f_if hf).1 c3
      refine g_sub (lv2 := []) [] rfl ?_
      exact h58 () hf
    · have hf := (f_if hf).2 c3
      refine g_iload C dX6_put_53 3 rfl ?_
      refine g_if_ne (tgt := 61) C dX6_put_55 (by decide) (fun c4 => ?_) (fun c4 => ?_)
      · have hf := (f_if hf).2 c4
        refine g_aload_n C dX6_put_61 rfl 0 rfl ?_
        refine g_get (Cl := RX6) (T := TX6) (N := 14) C mi_X6 0 rfl (List.mem_of_getElem? (i := 0) rfl) rfl 7 (by decide) mt_596 rfl rfl dX6_put_62 ?_
        refine g_iload_n C dX6_put_65 rfl 2 rfl ?_
        refine g_iadd C dX6_put_66 ?_
        refine g_bipush (v := (60 : Int32)) C dX6_put_67 (by decide) ?_
        refine g_icmp_le (tgt := 75) C dX6_put_69 (by decide) (fun c5 => ?_) (fun c5 => ?_)
        · have hf := (f_if hf).1 c5
          refine g_iload_n C dX6_put_75 rfl 2 rfl ?_
          refine g_iconst (v := (1 : Int32)) C dX6_put_76 (by decide) ?_
          refine g_isub C dX6_put_77 ?_
          refine g_istore (lv2 := [(7, .int (s.1 - (1 : Int32))), (0, .ref (a 0)), (1, .long p0), (3, .int s.1), (6, .int s.2)]) C dX6_put_78 (by decide) rfl ?_
          refine g_sub (lv2 := [(0, .ref (a 0)), (1, .long p0), (7, .int (s.1 - (1 : Int32)))]) [1, 2, 0] rfl ?_
          exact h80 N (V, (s.1 - (1 : Int32))) hf
        · have hf := (f_if hf).2 c5
          refine g_bipush (v := (-4 : Int32)) C dX6_put_72 (by decide) ?_
          obtain rfl := Option.some.inj hf
          exact g_iret C K dX6_put_74 (Nat.le_of_ble_eq_true rfl) (Nat.le_of_ble_eq_true rfl) ⟨rfl, rfl⟩
      · have hf := (f_if hf).1 c4
        refine g_sub (lv2 := []) [] rfl ?_
        exact h58 () hf
  have h8 : ∀ (n : Nat) (s : Int32 × Int64 × Int32), lp (b_X6_put_8 N V p0) n s = some o → G E X 8 [md E a V] 0 0 [(0, .ref (a 0)), (1, .long p0), (3, .int s.1), (4, .long s.2.1), (6, .int s.2.2)] [] 8 := lp_ind (by
    intro K8 hK8 s hf
    unfold b_X6_put_8 at hf
    refine g_lload C dX6_put_8 3 rfl ?_
    refine g_lconst (v := (0 : Int64)) C dX6_put_10 (by decide) ?_
    refine g_lcmp C dX6_put_11 ?_
    refine g_if_eq (tgt := 49) C dX6_put_12 (by decide) (fun c6 => ?_) (fun c6 => ?_)
    · have hf := (f_if hf).1 c6
      refine g_sub (lv2 := [(0, .ref (a 0)), (1, .long p0), (3, .int s.1), (6, .int s.2.2)]) [0, 1, 2, 4] rfl ?_
      exact h49 (s.1, s.2.2) hf
    · have hf := (f_if hf).2 c6
      refine g_iload C dX6_put_15 4 rfl ?_
      refine g_if_eq (tgt := 49) C dX6_put_17 (by decide) (fun c7 => ?_) (fun c7 => ?_)
      · have hf := (f_if hf).1 c7
        refine g_sub (lv2 := [(0, .ref (a 0)), (1, .long p0), (3, .int s.1), (6, .int s.2.2)]) [0, 1, 2, 4] rfl ?_
        exact h49 (s.1, s.2.2) hf
      · have hf := (f_if hf).2 c7
        refine g_lload C dX6_put_20 3 rfl ?_
        refine g_ldc2 C mt_821 dX6_put_22 ?_
        refine g_land C dX6_put_25 ?_
        refine g_l2i C dX6_put_26 ?_
        refine g_bipush (v := (33 : Int32)) C dX6_put_27 (by decide) ?_
        refine g_bipush (v := (126 : Int32)) C dX6_put_29 (by decide) ?_
        obtain ⟨o8, h9, hf⟩ := bind_s hf
        refine g_callS (As := [.int (Int64.toInt32 (s.2.1 &&& (255 : Int64))), .int (33 : Int32), .int (126 : Int32)]) (rest := []) C k_X6_in (fun l => c_X6_in (E := E) h9 l) mt_640 [] rfl (by decide) rfl (Nat.le_of_ble_eq_true rfl) ⟨Nat.le_of_ble_eq_true rfl, Nat.le_of_ble_eq_true rfl, Nat.le_of_ble_eq_true rfl, Nat.le_of_ble_eq_true rfl⟩ dX6_put_31 ?_
        rintro _ _ ⟨rfl, rfl⟩
        show G E X 8 [md E a V] 0 0 [(0, .ref (a 0)), (1, .long p0), (3, .int s.1), (4, .long s.2.1), (6, .int s.2.2)] [.int o8] 34
        refine g_istore (lv2 := [(6, .int o8), (0, .ref (a 0)), (1, .long p0), (3, .int s.1), (4, .long s.2.1)]) C dX6_put_34 (by decide) rfl ?_
        refine g_lload C dX6_put_36 4 rfl ?_
        refine g_bipush (v := (8 : Int32)) C dX6_put_38 (by decide) ?_
        refine g_lushr C dX6_put_40 ?_
        refine g_lstore (lv2 := [(4, .long ((Int64.toUInt64 s.2.1 >>> ((Int32.toInt64 (8 : Int32)).toUInt64 &&& Int64.toUInt64 63)).toInt64)), (6, .int o8), (0, .ref (a 0)), (1, .long p0), (3, .int s.1)]) C dX6_put_41 (by decide) rfl ?_
        refine g_iinc (v := (s.1 + (1 : Int32))) (lv2 := [(3, .int (s.1 + (1 : Int32))), (4, .long ((Int64.toUInt64 s.2.1 >>> ((Int32.toInt64 (8 : Int32)).toUInt64 &&& Int64.toUInt64 63)).toInt64)), (6, .int o8), (0, .ref (a 0)), (1, .long p0)]) C dX6_put_43 4 rfl (ii (by decide)) (by decide) rfl ?_
        refine g_goto (tgt := 8) C dX6_put_46 (by decide) ?_
        refine g_sub (lv2 := [(0, .ref (a 0)), (1, .long p0), (3, .int (s.1 + (1 : Int32))), (4, .long ((Int64.toUInt64 s.2.1 >>> ((Int32.toInt64 (8 : Int32)).toUInt64 &&& Int64.toUInt64 63)).toInt64)), (6, .int o8)]) [3, 4, 0, 1, 2] rfl ?_
        exact hK8 ((s.1 + (1 : Int32)), (Int64.toUInt64 s.2.1 >>> ((Int32.toInt64 (8 : Int32)).toUInt64 &&& Int64.toUInt64 63)).toInt64, o8) hf)
  unfold f_X6_put at hf
  refine g_iconst (v := (0 : Int32)) C dX6_put_0 (by decide) ?_
  refine g_istore_n (lv2 := [(3, .int (0 : Int32)), (0, .ref (a 0)), (1, .long p0)]) C dX6_put_1 rfl (by decide) rfl ?_
  refine g_lload_n C dX6_put_2 rfl 2 rfl ?_
  refine g_lstore (lv2 := [(4, .long p0), (3, .int (0 : Int32)), (0, .ref (a 0)), (1, .long p0)]) C dX6_put_3 (by decide) rfl ?_
  refine g_iconst (v := (1 : Int32)) C dX6_put_5 (by decide) ?_
  refine g_istore (lv2 := [(6, .int (1 : Int32)), (4, .long p0), (3, .int (0 : Int32)), (0, .ref (a 0)), (1, .long p0)]) C dX6_put_6 (by decide) rfl ?_
  refine g_sub (lv2 := [(0, .ref (a 0)), (1, .long p0), (3, .int (0 : Int32)), (4, .long p0), (6, .int (1 : Int32))]) [3, 4, 2, 1, 0] rfl ?_
  exact h8 N ((0 : Int32), p0, (1 : Int32)) hf
def f_X6_wipe (V : Md) : Option (Int32 × Md) := some (V.2.2.2.2.2.2.2.1, (V.1, V.2.1, V.2.2.1, V.2.2.2.1, V.2.2.2.2.1, V.2.2.2.2.2.1, V.2.2.2.2.2.2.1, (0 : Int32), V.2.2.2.2.2.2.2.2.1, V.2.2.2.2.2.2.2.2.2.1, V.2.2.2.2.2.2.2.2.2.2.1, V.2.2.2.2.2.2.2.2.2.2.2.1, V.2.2.2.2.2.2.2.2.2.2.2.2.1, V.2.2.2.2.2.2.2.2.2.2.2.2.2))
abbrev rm_X6_wipe : Room := { frames := 0, cells := 0, slots := 0, locals := 0 }
set_option maxRecDepth 100000 in
theorem k_X6_wipe : CF yX6_wipe cX6_wipe 2 (some .int) 0 := ⟨mt_823, mt_824, mt_13, mt_825, ⟨rfl, by decide +kernel, by decide +kernel, by decide +kernel⟩⟩
set_option maxHeartbeats 4000000 in
set_option maxRecDepth 100000 in
theorem c_X6_wipe {E : Ev} {a : Nat → Nat} {V : Md} {o : Int32 × Md} (hf : f_X6_wipe V = some o) : ∀ l, MG l yX6_wipe cX6_wipe 2 (some .int) rm_X6_wipe E [.ref (a 0)] [md E a V] (fun v Y => v = some (.int o.1) ∧ Y = [md E a o.2]) := by
  refine MG.mk (own := RX6) (lv0 := [(0, .ref (a 0))]) (by decide) rfl (Nat.le_of_ble_eq_true rfl) rfl (fun X C K I => ?_)
  unfold f_X6_wipe at hf
  refine g_aload_n C dX6_wipe_0 rfl 0 rfl ?_
  refine g_get (Cl := RX6) (T := TX6) (N := 14) C mi_X6 0 rfl (List.mem_of_getElem? (i := 0) rfl) rfl 7 (by decide) mt_596 rfl rfl dX6_wipe_1 ?_
  refine g_istore_n (lv2 := [(1, .int V.2.2.2.2.2.2.2.1), (0, .ref (a 0))]) C dX6_wipe_4 rfl (by decide) rfl ?_
  refine g_aload_n C dX6_wipe_5 rfl 1 rfl ?_
  refine g_iconst (v := (0 : Int32)) C dX6_wipe_6 (by decide) ?_
  refine g_put (Cl := RX6) (T := TX6) (N := 14) (Y2 := [md E a (V.1, V.2.1, V.2.2.1, V.2.2.2.1, V.2.2.2.2.1, V.2.2.2.2.2.1, V.2.2.2.2.2.2.1, (0 : Int32), V.2.2.2.2.2.2.2.2.1, V.2.2.2.2.2.2.2.2.2.1, V.2.2.2.2.2.2.2.2.2.2.1, V.2.2.2.2.2.2.2.2.2.2.2.1, V.2.2.2.2.2.2.2.2.2.2.2.2.1, V.2.2.2.2.2.2.2.2.2.2.2.2.2)]) C mi_X6 tyX6_ok nmX6 0 0 rfl rfl rfl 7 (by decide) mt_596 rfl rfl rfl rfl rfl (Nat.le_of_ble_eq_true rfl) dX6_wipe_7 rfl ?_
  refine g_iload_n C dX6_wipe_10 rfl 0 rfl ?_
  obtain rfl := Option.some.inj hf
  exact g_iret C K dX6_wipe_11 (Nat.le_of_ble_eq_true rfl) (Nat.le_of_ble_eq_true rfl) ⟨rfl, rfl⟩
def b_X6_fault_184 (N : Nat) (V : Md) (s : Int32) : Option (Int32) := some s
def b_X6_fault_175 (N : Nat) (V : Md) (s : Unit) : Option (Int32) := b_X6_fault_184 N V V.2.2.2.2.2.2.2.1
def b_X6_fault_160 (N : Nat) (V : Md) (K : (Int32 × Int32 × Int32) → Option (Int32)) (s : Int32 × Int32 × Int32) : Option (Int32) := K (s.2.2, s.1, (s.2.1 + (1 : Int32)))
def b_X6_fault_155 (N : Nat) (V : Md) (K : (Int32 × Int32 × Int32) → Option (Int32)) (s : Int32 × Int32) : Option (Int32) := b_X6_fault_160 N V K (s.1, s.2, (1 : Int32))
def b_X6_fault_143 (N : Nat) (V : Md) (K : (Int32 × Int32 × Int32) → Option (Int32)) (s : Int32 × Int32 × Int32 × Int32 × Int32) : Option (Int32) := (if s.2.1 = 0 then (if s.2.2.1 = 0 then b_X6_fault_160 N V K ((s.2.2.2.1 + s.2.2.2.2), s.1, (0 : Int32)) else b_X6_fault_155 N V K ((s.2.2.2.1 + s.2.2.2.2), s.1)) else b_X6_fault_155 N V K ((s.2.2.2.1 + s.2.2.2.2), s.1))
def b_X6_fault_110 (N : Nat) (V : Md) (K : (Int32 × Int32 × Int32) → Option (Int32)) (s : Int32 × Int32 × Int32 × Int32 × Int32 × Int32) : Option (Int32) := (if s.2.2.2.2.2 = 0 then some s.2.1 else (if s.2.2.1 = (40 : Int32) then b_X6_fault_143 N V K (s.2.1, s.2.2.2.1, s.2.2.2.2.1, s.1, (1 : Int32)) else (if s.2.2.1 = (41 : Int32) then b_X6_fault_143 N V K (s.2.1, s.2.2.2.1, s.2.2.2.2.1, s.1, (-1 : Int32)) else b_X6_fault_143 N V K (s.2.1, s.2.2.2.1, s.2.2.2.2.1, s.1, (0 : Int32)))))
def b_X6_fault_109 (N : Nat) (V : Md) (K : (Int32 × Int32 × Int32) → Option (Int32)) (s : Int32 × Int32 × Int32 × Int32 × Int32) : Option (Int32) := b_X6_fault_110 N V K (s.1, s.2.1, s.2.2.1, s.2.2.2.1, s.2.2.2.2, (0 : Int32))
def b_X6_fault_105 (N : Nat) (V : Md) (K : (Int32 × Int32 × Int32) → Option (Int32)) (s : Int32 × Int32 × Int32 × Int32 × Int32) : Option (Int32) := b_X6_fault_110 N V K (s.1, s.2.1, s.2.2.1, s.2.2.2.1, s.2.2.2.2, (1 : Int32))
def b_X6_fault_81 (N : Nat) (V : Md) (K : (Int32 × Int32 × Int32) → Option (Int32)) (s : Int32 × Int32 × Int32 × Int32 × Int32) : Option (Int32) := b_X6_fault_110 N V K (s.1, s.2.1, s.2.2.1, s.2.2.2.1, s.2.2.2.2, (1 : Int32))
def b_X6_fault_62 (N : Nat) (V : Md) (K : (Int32 × Int32 × Int32) → Option (Int32)) (s : Int32 × Int32 × Int32 × Int32 × Int32 × Int32) : Option (Int32) := (if s.1 = 0 then (if s.2.2.2.2.2 = 0 then (if s.2.2.2.1 = (41 : Int32) then (if s.2.1 ≤ 0 then b_X6_fault_109 N V K (s.2.1, s.2.2.1, s.2.2.2.1, s.2.2.2.2.1, s.2.2.2.2.2) else b_X6_fault_105 N V K (s.2.1, s.2.2.1, s.2.2.2.1, s.2.2.2.2.1, s.2.2.2.2.2)) else b_X6_fault_109 N V K (s.2.1, s.2.2.1, s.2.2.2.1, s.2.2.2.2.1, s.2.2.2.2.2)) else b_X6_fault_105 N V K (s.2.1, s.2.2.1, s.2.2.2.1, s.2.2.2.2.1, s.2.2.2.2.2)) else (if s.2.2.2.2.1 = 0 then ((f_X6_isLetter s.2.2.2.1).bind fun o11 => (if o11 = 0 then b_X6_fault_110 N V K (s.2.1, s.2.2.1, s.2.2.2.1, s.2.2.2.2.1, s.2.2.2.2.2, (0 : Int32)) else b_X6_fault_81 N V K (s.2.1, s.2.2.1, s.2.2.2.1, s.2.2.2.2.1, s.2.2.2.2.2))) else b_X6_fault_81 N V K (s.2.1, s.2.2.1, s.2.2.2.1, s.2.2.2.2.1, s.2.2.2.2.2)))
def b_X6_fault_57 (N : Nat) (V : Md) (K : (Int32 × Int32 × Int32) → Option (Int32)) (s : Int32 × Int32 × Int32 × Int32 × Int32) : Option (Int32) := b_X6_fault_62 N V K (s.1, s.2.1, s.2.2.1, s.2.2.2.1, s.2.2.2.2, (1 : Int32))
def b_X6_fault_41 (N : Nat) (V : Md) (K : (Int32 × Int32 × Int32) → Option (Int32)) (s : Int32 × Int32 × Int32 × Int32 × Int32) : Option (Int32) := (if s.2.2.2.1 = (38 : Int32) then b_X6_fault_57 N V K (s.1, s.2.1, s.2.2.1, s.2.2.2.1, s.2.2.2.2) else (if s.2.2.2.1 = (124 : Int32) then b_X6_fault_57 N V K (s.1, s.2.1, s.2.2.1, s.2.2.2.1, s.2.2.2.2) else b_X6_fault_62 N V K (s.1, s.2.1, s.2.2.1, s.2.2.2.1, s.2.2.2.2, (0 : Int32))))
def b_X6_fault_36 (N : Nat) (V : Md) (K : (Int32 × Int32 × Int32) → Option (Int32)) (s : Int32 × Int32 × Int32 × Int32) : Option (Int32) := b_X6_fault_41 N V K (s.1, s.2.1, s.2.2.1, s.2.2.2, (1 : Int32))
def b_X6_fault_6 (N : Nat) (V : Md) (K : (Int32 × Int32 × Int32) → Option (Int32)) (s : Int32 × Int32 × Int32) : Option (Int32) := (if V.2.2.2.2.2.2.2.1 ≤ s.2.2 then (if s.1 = 0 then (if s.2.1 ≤ 0 then b_X6_fault_184 N V (-6 : Int32) else b_X6_fault_175 N V ()) else b_X6_fault_175 N V ()) else (ix s.2.2 60 (if (V.2.2.2.2.2.2.1 (Int32.toNatClampNeg s.2.2)) = (33 : Int32) then b_X6_fault_36 N V K (s.1, s.2.1, s.2.2, (V.2.2.2.2.2.2.1 (Int32.toNatClampNeg s.2.2))) else (if (V.2.2.2.2.2.2.1 (Int32.toNatClampNeg s.2.2)) = (40 : Int32) then b_X6_fault_36 N V K (s.1, s.2.1, s.2.2, (V.2.2.2.2.2.2.1 (Int32.toNatClampNeg s.2.2))) else b_X6_fault_41 N V K (s.1, s.2.1, s.2.2, (V.2.2.2.2.2.2.1 (Int32.toNatClampNeg s.2.2)), (0 : Int32))))))
def f_X6_fault (N : Nat) (V : Md) : Option (Int32) := lp (b_X6_fault_6 N V) N ((1 : Int32), (0 : Int32), (0 : Int32))
abbrev rm_X6_fault : Room := { frames := 1, cells := 0, slots := 0, locals := 20 }
set_option maxRecDepth 100000 in
theorem k_X6_fault : CF yX6_fault cX6_fault 8 (some .int) 0 := ⟨mt_827, mt_828, mt_13, mt_829, ⟨rfl, by decide +kernel, by decide +kernel, by decide +kernel⟩⟩
set_option maxHeartbeats 4000000 in
set_option maxRecDepth 100000 in
theorem c_X6_fault {E : Ev} {a : Nat → Nat} {V : Md} {N : Nat} {o : Int32} (hf : f_X6_fault N V = some o) : ∀ l, MG l yX6_fault cX6_fault 8 (some .int) rm_X6_fault E [.ref (a 0)] [md E a V] (fun v Y => v = some (.int o) ∧ Y = [md E a V]) := by
  refine MG.mk (own := RX6) (lv0 := [(0, .ref (a 0))]) (by decide) rfl (Nat.le_of_ble_eq_true rfl) rfl (fun X C K I => ?_)
  have h184 : ∀ s : Int32, b_X6_fault_184 N V s = some o → G E X 8 [md E a V] 0 0 [] [.int s] 184 := by
    intro s hf
    unfold b_X6_fault_184 at hf
    obtain rfl := Option.some.inj hf
    exact g_iret C K dX6_fault_184 (Nat.le_of_ble_eq_true rfl) (Nat.le_of_ble_eq_true rfl) ⟨rfl, rfl⟩
  have h175 : ∀ s : Unit, b_X6_fault_175 N V s = some o → G E X 8 [md E a V] 0 0 [(0, .ref (a 0))] [] 175 := by
    intro s hf
    unfold b_X6_fault_175 at hf
    refine g_aload_n C dX6_fault_175 rfl 0 rfl ?_
    refine g_get (Cl := RX6) (T := TX6) (N := 14) C mi_X6 0 rfl (List.mem_of_getElem? (i := 0) rfl) rfl 7 (by decide) mt_596 rfl rfl dX6_fault_176 ?_
    refine g_goto (tgt := 184) C dX6_fault_179 (by decide) ?_
    refine g_sub (lv2 := []) [] rfl ?_
    exact h184 V.2.2.2.2.2.2.2.1 hf
  have h160 : ∀ (K : (Int32 × Int32 × Int32) → Option (Int32)), (∀ s : Int32 × Int32 × Int32, K s = some o → G E X 8 [md E a V] 0 0 [(0, .ref (a 0)), (1, .int s.1), (2, .int s.2.1), (3, .int s.2.2)] [] 6) → ∀ s : Int32 × Int32 × Int32, b_X6_fault_160 N V K s = some o → G E X 8 [md E a V] 0 0 [(0, .ref (a 0)), (2, .int s.1), (3, .int s.2.1)] [.int s.2.2] 160 := by
    intro K6 hK6 s hf
    unfold b_X6_fault_160 at hf
    refine g_istore_n (lv2 := [(1, .int s.2.2), (0, .ref (a 0)), (2, .int s.1), (3, .int s.2.1)]) C dX6_fault_160 rfl (by decide) rfl ?_
    refine g_iinc (v := (s.2.1 + (1 : Int32))) (lv2 := [(3, .int (s.2.1 + (1 : Int32))), (1, .int s.2.2), (0, .ref (a 0)), (2, .int s.1)]) C dX6_fault_161 3 rfl (ii (by decide)) (by decide) rfl ?_
    refine g_goto (tgt := 6) C dX6_fault_164 (by decide) ?_
    refine g_sub (lv2 := [(0, .ref (a 0)), (1, .int s.2.2), (2, .int s.1), (3, .int (s.2.1 + (1 : Int32)))]) [2, 1, 3, 0] rfl ?_
    exact hK6 (s.2.2, s.1, (s.2.1 + (1 : Int32))) hf
  have h155 : ∀ (K : (Int32 × Int32 × Int32) → Option (Int32)), (∀ s : Int32 × Int32 × Int32, K s = some o → G E X 8 [md E a V] 0 0 [(0, .ref (a 0)), (1, .int s.1), (2, .int s.2.1), (3, .int s.2.2)] [] 6) → ∀ s : Int32 × Int32, b_X6_fault_155 N V K s = some o → G E X 8 [md E a V] 0 0 [(0, .ref (a 0)), (2, .int s.1), (3, .int s.2)] [] 155 := by
    intro K6 hK6 s hf
    unfold b_X6_fault_155 at hf
    refine g_iconst (v := (1 : Int32)) C dX6_fault_155 (by decide) ?_
    refine g_goto (tgt := 160) C dX6_fault_156 (by decide) ?_
    exact h160 _ hK6 (s.1, s.2, (1 : Int32)) hf
  have h143 : ∀ (K : (Int32 × Int32 × Int32) → Option (Int32)), (∀ s : Int32 × Int32 × Int32, K s = some o → G E X 8 [md E a V] 0 0 [(0, .ref (a 0)), (1, .int s.1), (2, .int s.2.1), (3, .int s.2.2)] [] 6) → ∀ s : Int32 × Int32 × Int32 × Int32 × Int32, b_X6_fault_143 N V K s = some o → G E X 8 [md E a V] 0 0 [(0, .ref (a 0)), (3, .int s.1), (5, .int s.2.1), (6, .int s.2.2.1)] [.int s.2.2.2.2, .int s.2.2.2.1] 143 := by
    intro K6 hK6 s hf
    unfold b_X6_fault_143 at hf
    refine g_iadd C dX6_fault_143 ?_
    refine g_istore_n (lv2 := [(2, .int (s.2.2.2.1 + s.2.2.2.2)), (0, .ref (a 0)), (3, .int s.1), (5, .int s.2.1), (6, .int s.2.2.1)]) C dX6_fault_144 rfl (by decide) rfl ?_
    refine g_iload C dX6_fault_145 3 rfl ?_
    refine g_if_ne (tgt := 155) C dX6_fault_147 (by decide) (fun c1 => ?_) (fun c1 => ?_)
    · have hf := (f_if hf).2 c1
      refine g_sub (lv2 := [(0, .ref (a 0)), (2, .int (s.2.2.2.1 + s.2.2.2.2)), (3, .int s.1)]) [1, 0, 2] rfl ?_
      exact h155 _ hK6 ((s.2.2.2.1 + s.2.2.2.2), s.1) hf
    · have hf := (f_if hf).1 c1
      refine g_iload C dX6_fault_150 4 rfl ?_
      refine g_if_eq (tgt := 159) C dX6_fault_152 (by decide) (fun c2 => ?_) (fun c2 => ?_)
      · have hf := (f_if hf).1 c2
        refine g_iconst (v := (0 : Int32)) C dX6_fault_159 (by decide) ?_
        refine g_sub (lv2 := [(0, .ref (a 0)), (2, .int (s.2.2.2.1 + s.2.2.2.2)), (3, .int s.1)]) [1, 0, 2] rfl ?_
        exact h160 _ hK6 ((s.2.2.2.1 + s.2.2.2.2), s.1, (0 : Int32)) hf
      · have hf := (f_if hf).2 c2
        refine g_sub (lv2 := [(0, .ref (a 0)), (2, .int (s.2.2.2.1 + s.2.2.2.2)), (3, .int s.1)]) [1, 0, 2] rfl ?_
        exact h155 _ hK6 ((s.2.2.2.1 + s.2.2.2.2), s.1) hf
  have h110 : ∀ (K : (Int32 × Int32 × Int32) → Option (Int32)), (∀ s : Int32 × Int32 × Int32, K s = some o → G E X 8 [md E a V] 0 0 [(0, .ref (a 0)), (1, .int s.1), (2, .int s.2.1), (3, .int s.2.2)] [] 6) → ∀ s : Int32 × Int32 × Int32 × Int32 × Int32 × Int32, b_X6_fault_110 N V K s = some o → G E X 8 [md E a V] 0 0 [(0, .ref (a 0)), (2, .int s.1), (3, .int s.2.1), (4, .int s.2.2.1), (5, .int s.2.2.2.1), (6, .int s.2.2.2.2.1)] [.int s.2.2.2.2.2] 110 := by
    intro K6 hK6 s hf
    unfold b_X6_fault_110 at hf
    refine g_istore (lv2 := [(7, .int s.2.2.2.2.2), (0, .ref (a 0)), (2, .int s.1), (3, .int s.2.1), (4, .int s.2.2.1), (5, .int s.2.2.2.1), (6, .int s.2.2.2.2.1)]) C dX6_fault_110 (by decide) rfl ?_
    refine g_iload C dX6_fault_112 0 rfl ?_
    refine g_if_ne (tgt := 119) C dX6_fault_114 (by decide) (fun c3 => ?_) (fun c3 => ?_)
    · have hf := (f_if hf).2 c3
      refine g_iload_n C dX6_fault_119 rfl 2 rfl ?_
      refine g_iload C dX6_fault_120 4 rfl ?_
      refine g_bipush (v := (40 : Int32)) C dX6_fault_122 (by decide) ?_
      refine g_icmp_ne (tgt := 131) C dX6_fault_124 (by decide) (fun c4 => ?_) (fun c4 => ?_)
      · have hf := (f_if hf).2 c4
        refine g_iload C dX6_fault_131 4 rfl ?_
        refine g_bipush (v := (41 : Int32)) C dX6_fault_133 (by decide) ?_
        refine g_icmp_ne (tgt := 142) C dX6_fault_135 (by decide) (fun c5 => ?_) (fun c5 => ?_)
        · have hf := (f_if hf).2 c5
          refine g_iconst (v := (0 : Int32)) C dX6_fault_142 (by decide) ?_
          refine g_sub (lv2 := [(0, .ref (a 0)), (3, .int s.2.1), (5, .int s.2.2.2.1), (6, .int s.2.2.2.2.1)]) [1, 3, 5, 6] rfl ?_
          exact h143 _ hK6 (s.2.1, s.2.2.2.1, s.2.2.2.2.1, s.1, (0 : Int32)) hf
        · have hf := (f_if hf).1 c5
          refine g_iconst (v := (-1 : Int32)) C dX6_fault_138 ofI_m1 ?_
          refine g_goto (tgt := 143) C dX6_fault_139 (by decide) ?_
          refine g_sub (lv2 := [(0, .ref (a 0)), (3, .int s.2.1), (5, .int s.2.2.2.1), (6, .int s.2.2.2.2.1)]) [1, 3, 5, 6] rfl ?_
          exact h143 _ hK6 (s.2.1, s.2.2.2.1, s.2.2.2.2.1, s.1, (-1 : Int32)) hf
      · have hf := (f_if hf).1 c4
        refine g_iconst (v := (1 : Int32)) C dX6_fault_127 (by decide) ?_
        refine g_goto (tgt := 143) C dX6_fault_128 (by decide) ?_
        refine g_sub (lv2 := [(0, .ref (a 0)), (3, .int s.2.1), (5, .int s.2.2.2.1), (6, .int s.2.2.2.2.1)]) [1, 3, 5, 6] rfl ?_
        exact h143 _ hK6 (s.2.1, s.2.2.2.1, s.2.2.2.2.1, s.1, (1 : Int32)) hf
    · have hf := (f_if hf).1 c3
      refine g_iload_n C dX6_fault_117 rfl 3 rfl ?_
      obtain rfl := Option.some.inj hf
      exact g_iret C K dX6_fault_118 (Nat.le_of_ble_eq_true rfl) (Nat.le_of_ble_eq_true rfl) ⟨rfl, rfl⟩
  have h109 : ∀ (K : (Int32 × Int32 × Int32) → Option (Int32)), (∀ s : Int32 × Int32 × Int32, K s = some o → G E X 8 [md E a V] 0 0 [(0, .ref (a 0)), (1, .int s.1), (2, .int s.2.1), (3, .int s.2.2)] [] 6) → ∀ s : Int32 × Int32 × Int32 × Int32 × Int32, b_X6_fault_109 N V K s = some o → G E X 8 [md E a V] 0 0 [(0, .ref (a 0)), (2, .int s.1), (3, .int s.2.1), (4, .int s.2.2.1), (5, .int s.2.2.2.1), (6, .int s.2.2.2.2)] [] 109 := by
    intro K6 hK6 s hf
    unfold b_X6_fault_109 at hf
    refine g_iconst (v := (0 : Int32)) C dX6_fault_109 (by decide) ?_
    exact h110 _ hK6 (s.1, s.2.1, s.2.2.1, s.2.2.2.1, s.2.2.2.2, (0 : Int32)) hf
  have h105 : ∀ (K : (Int32 × Int32 × Int32) → Option (Int32)), (∀ s : Int32 × Int32 × Int32, K s = some o → G E X 8 [md E a V] 0 0 [(0, .ref (a 0)), (1, .int s.1), (2, .int s.2.1), (3, .int s.2.2)] [] 6) → ∀ s : Int32 × Int32 × Int32 × Int32 × Int32, b_X6_fault_105 N V K s = some o → G E X 8 [md E a V] 0 0 [(0, .ref (a 0)), (2, .int s.1), (3, .int s.2.1), (4, .int s.2.2.1), (5, .int s.2.2.2.1), (6, .int s.2.2.2.2)] [] 105 := by
    intro K6 hK6 s hf
    unfold b_X6_fault_105 at hf
    refine g_iconst (v := (1 : Int32)) C dX6_fault_105 (by decide) ?_
    refine g_goto (tgt := 110) C dX6_fault_106 (by decide) ?_
    exact h110 _ hK6 (s.1, s.2.1, s.2.2.1, s.2.2.2.1, s.2.2.2.2, (1 : Int32)) hf
  have h81 : ∀ (K : (Int32 × Int32 × Int32) → Option (Int32)), (∀ s : Int32 × Int32 × Int32, K s = some o → G E X 8 [md E a V] 0 0 [(0, .ref (a 0)), (1, .int s.1), (2, .int s.2.1), (3, .int s.2.2)] [] 6) → ∀ s : Int32 × Int32 × Int32 × Int32 × Int32, b_X6_fault_81 N V K s = some o → G E X 8 [md E a V] 0 0 [(0, .ref (a 0)), (2, .int s.1), (3, .int s.2.1), (4, .int s.2.2.1), (5, .int s.2.2.2.1), (6, .int s.2.2.2.2)] [] 81 := by
    intro K6 hK6 s hf
    unfold b_X6_fault_81 at hf
    refine g_iconst (v := (1 : Int32)) C dX6_fault_81 (by decide) ?_
    refine g_goto (tgt := 110) C dX6_fault_82 (by decide) ?_
    exact h110 _ hK6 (s.1, s.2.1, s.2.2.1, s.2.2.2.1, s.2.2.2.2, (1 : Int32)) hf
  have h62 : ∀ (K : (Int32 × Int32 × Int32) → Option (Int32)), (∀ s : Int32 × Int32 × Int32, K s = some o → G E X 8 [md E a V] 0 0 [(0, .ref (a 0)), (1, .int s.1), (2, .int s.2.1), (3, .int s.2.2)] [] 6) → ∀ s : Int32 × Int32 × Int32 × Int32 × Int32 × Int32, b_X6_fault_62 N V K s = some o → G E X 8 [md E a V] 0 0 [(0, .ref (a 0)), (1, .int s.1), (2, .int s.2.1), (3, .int s.2.2.1), (4, .int s.2.2.2.1), (5, .int s.2.2.2.2.1)] [.int s.2.2.2.2.2] 62 := by
    intro K6 hK6 s hf
    unfold b_X6_fault_62 at hf
    refine g_istore (lv2 := [(6, .int s.2.2.2.2.2), (0, .ref (a 0)), (1, .int s.1), (2, .int s.2.1), (3, .int s.2.2.1), (4, .int s.2.2.2.1), (5, .int s.2.2.2.2.1)]) C dX6_fault_62 (by decide) rfl ?_
    refine g_iload_n C dX6_fault_64 rfl 2 rfl ?_
    refine g_if_eq (tgt := 89) C dX6_fault_65 (by decide) (fun c6 => ?_) (fun c6 => ?_)
    · have hf := (f_if hf).1 c6
      refine g_iload C dX6_fault_89 0 rfl ?_
      refine g_if_ne (tgt := 105) C dX6_fault_91 (by decide) (fun c7 => ?_) (fun c7 => ?_)
      · have hf := (f_if hf).2 c7
        refine g_sub (lv2 := [(0, .ref (a 0)), (2, .int s.2.1), (3, .int s.2.2.1), (4, .int s.2.2.2.1), (5, .int s.2.2.2.2.1), (6, .int s.2.2.2.2.2)]) [1, 3, 4, 5, 6, 0] rfl ?_
        exact h105 _ hK6 (s.2.1, s.2.2.1, s.2.2.2.1, s.2.2.2.2.1, s.2.2.2.2.2) hf
      · have hf := (f_if hf).1 c7
        refine g_iload C dX6_fault_94 5 rfl ?_
        refine g_bipush (v := (41 : Int32)) C dX6_fault_96 (by decide) ?_
        refine g_icmp_ne (tgt := 109) C dX6_fault_98 (by decide) (fun c8 => ?_) (fun c8 => ?_)
        · have hf := (f_if hf).2 c8
          refine g_sub (lv2 := [(0, .ref (a 0)), (2, .int s.2.1), (3, .int s.2.2.1), (4, .int s.2.2.2.1), (5, .int s.2.2.2.2.1), (6, .int s.2.2.2.2.2)]) [1, 3, 4, 5, 6, 0] rfl ?_
          exact h109 _ hK6 (s.2.1, s.2.2.1, s.2.2.2.1, s.2.2.2.2.1, s.2.2.2.2.2) hf
        · have hf := (f_if hf).1 c8
          refine g_iload_n C dX6_fault_101 rfl 3 rfl ?_
          refine g_if_le (tgt := 109) C dX6_fault_102 (by decide) (fun c9 => ?_) (fun c9 => ?_)
          · have hf := (f_if hf).1 c9
            refine g_sub (lv2 := [(0, .ref (a 0)), (2, .int s.2.1), (3, .int s.2.2.1), (4, .int s.2.2.2.1), (5, .int s.2.2.2.2.1), (6, .int s.2.2.2.2.2)]) [1, 3, 4, 5, 6, 0] rfl ?_
            exact h109 _ hK6 (s.2.1, s.2.2.1, s.2.2.2.1, s.2.2.2.2.1, s.2.2.2.2.2) hf
          · have hf := (f_if hf).2 c9
            refine g_sub (lv2 := [(0, .ref (a 0)), (2, .int s.2.1), (3, .int s.2.2.1), (4, .int s.2.2.2.1), (5, .int s.2.2.2.2.1), (6, .int s.2.2.2.2.2)]) [1, 3, 4, 5, 6, 0] rfl ?_
            exact h105 _ hK6 (s.2.1, s.2.2.1, s.2.2.2.1, s.2.2.2.2.1, s.2.2.2.2.2) hf
    · have hf := (f_if hf).2 c6
      refine g_iload C dX6_fault_68 6 rfl ?_
      refine g_if_ne (tgt := 81) C dX6_fault_70 (by decide) (fun c10 => ?_) (fun c10 => ?_)
      · have hf := (f_if hf).2 c10
        refine g_sub (lv2 := [(0, .ref (a 0)), (2, .int s.2.1), (3, .int s.2.2.1), (4, .int s.2.2.2.1), (5, .int s.2.2.2.2.1), (6, .int s.2.2.2.2.2)]) [1, 3, 4, 5, 6, 0] rfl ?_
        exact h81 _ hK6 (s.2.1, s.2.2.1, s.2.2.2.1, s.2.2.2.2.1, s.2.2.2.2.2) hf
      · have hf := (f_if hf).1 c10
        refine g_iload C dX6_fault_73 5 rfl ?_
        obtain ⟨o11, h12, hf⟩ := bind_s hf
        refine g_callS (As := [.int s.2.2.2.1]) (rest := []) C k_X6_isLetter (fun l => c_X6_isLetter (E := E) h12 l) mt_685 [] rfl (by decide) rfl (Nat.le_of_ble_eq_true rfl) ⟨Nat.le_of_ble_eq_true rfl, Nat.le_of_ble_eq_true rfl, Nat.le_of_ble_eq_true rfl, Nat.le_of_ble_eq_true rfl⟩ dX6_fault_75 ?_
        rintro _ _ ⟨rfl, rfl⟩
        show G E X 8 [md E a V] 0 0 [(6, .int s.2.2.2.2.2), (0, .ref (a 0)), (1, .int s.1), (2, .int s.2.1), (3, .int s.2.2.1), (4, .int s.2.2.2.1), (5, .int s.2.2.2.2.1)] [.int o11] 78
        refine g_if_eq (tgt := 85) C dX6_fault_78 (by decide) (fun c13 => ?_) (fun c13 => ?_)
        · have hf := (f_if hf).1 c13
          refine g_iconst (v := (0 : Int32)) C dX6_fault_85 (by decide) ?_
          refine g_goto (tgt := 110) C dX6_fault_86 (by decide) ?_
          refine g_sub (lv2 := [(0, .ref (a 0)), (2, .int s.2.1), (3, .int s.2.2.1), (4, .int s.2.2.2.1), (5, .int s.2.2.2.2.1), (6, .int s.2.2.2.2.2)]) [1, 3, 4, 5, 6, 0] rfl ?_
          exact h110 _ hK6 (s.2.1, s.2.2.1, s.2.2.2.1, s.2.2.2.2.1, s.2.2.2.2.2, (0 : Int32)) hf
        · have hf := (f_if hf).2 c13
          refine g_sub (lv2 := [(0, .ref (a 0)), (2, .int s.2.1), (3, .int s.2.2.1), (4, .int s.2.2.2.1), (5, .int s.2.2.2.2.1), (6, .int s.2.2.2.2.2)]) [1, 3, 4, 5, 6, 0] rfl ?_
          exact h81 _ hK6 (s.2.1, s.2.2.1, s.2.2.2.1, s.2.2.2.2.1, s.2.2.2.2.2) hf
  have h57 : ∀ (K : (Int32 × Int32 × Int32) → Option (Int32)), (∀ s : Int32 × Int32 × Int32, K s = some o → G E X 8 [md E a V] 0 0 [(0, .ref (a 0)), (1, .int s.1), (2, .int s.2.1), (3, .int s.2.2)] [] 6) → ∀ s : Int32 × Int32 × Int32 × Int32 × Int32, b_X6_fault_57 N V K s = some o → G E X 8 [md E a V] 0 0 [(0, .ref (a 0)), (1, .int s.1), (2, .int s.2.1), (3, .int s.2.2.1), (4, .int s.2.2.2.1), (5, .int s.2.2.2.2)] [] 57 := by
    intro K6 hK6 s hf
    unfold b_X6_fault_57 at hf
    refine g_iconst (v := (1 : Int32)) C dX6_fault_57 (by decide) ?_
    refine g_goto (tgt := 62) C dX6_fault_58 (by decide) ?_
    exact h62 _ hK6 (s.1, s.2.1, s.2.2.1, s.2.2.2.1, s.2.2.2.2, (1 : Int32)) hf
  have h41 : ∀ (K : (Int32 × Int32 × Int32) → Option (Int32)), (∀ s : Int32 × Int32 × Int32, K s = some o → G E X 8 [md E a V] 0 0 [(0, .ref (a 0)), (1, .int s.1), (2, .int s.2.1), (3, .int s.2.2)] [] 6) → ∀ s : Int32 × Int32 × Int32 × Int32 × Int32, b_X6_fault_41 N V K s = some o → G E X 8 [md E a V] 0 0 [(0, .ref (a 0)), (1, .int s.1), (2, .int s.2.1), (3, .int s.2.2.1), (4, .int s.2.2.2.1)] [.int s.2.2.2.2] 41 := by
    intro K6 hK6 s hf
    unfold b_X6_fault_41 at hf
    refine g_istore (lv2 := [(5, .int s.2.2.2.2), (0, .ref (a 0)), (1, .int s.1), (2, .int s.2.1), (3, .int s.2.2.1), (4, .int s.2.2.2.1)]) C dX6_fault_41 (by decide) rfl ?_
    refine g_iload C dX6_fault_43 5 rfl ?_
    refine g_bipush (v := (38 : Int32)) C dX6_fault_45 (by decide) ?_
    refine g_icmp_eq (tgt := 57) C dX6_fault_47 (by decide) (fun c14 => ?_) (fun c14 => ?_)
    · have hf := (f_if hf).1 c14
      refine g_sub (lv2 := [(0, .ref (a 0)), (1, .int s.1), (2, .int s.2.1), (3, .int s.2.2.1), (4, .int s.2.2.2.1), (5, .int s.2.2.2.2)]) [1, 2, 3, 4, 5, 0] rfl ?_
      exact h57 _ hK6 (s.1, s.2.1, s.2.2.1, s.2.2.2.1, s.2.2.2.2) hf
    · have hf := (f_if hf).2 c14
      refine g_iload C dX6_fault_50 5 rfl ?_
      refine g_bipush (v := (124 : Int32)) C dX6_fault_52 (by decide) ?_
      refine g_icmp_ne (tgt := 61) C dX6_fault_54 (by decide) (fun c15 => ?_) (fun c15 => ?_)
      · have hf := (f_if hf).2 c15
        refine g_iconst (v := (0 : Int32)) C dX6_fault_61 (by decide) ?_
        refine g_sub (lv2 := [(0, .ref (a 0)), (1, .int s.1), (2, .int s.2.1), (3, .int s.2.2.1), (4, .int s.2.2.2.1), (5, .int s.2.2.2.2)]) [1, 2, 3, 4, 5, 0] rfl ?_
        exact h62 _ hK6 (s.1, s.2.1, s.2.2.1, s.2.2.2.1, s.2.2.2.2, (0 : Int32)) hf
      · have hf := (f_if hf).1 c15
        refine g_sub (lv2 := [(0, .ref (a 0)), (1, .int s.1), (2, .int s.2.1), (3, .int s.2.2.1), (4, .int s.2.2.2.1), (5, .int s.2.2.2.2)]) [1, 2, 3, 4, 5, 0] rfl ?_
        exact h57 _ hK6 (s.1, s.2.1, s.2.2.1, s.2.2.2.1, s.2.2.2.2) hf
  have h36 : ∀ (K : (Int32 × Int32 × Int32) → Option (Int32)), (∀ s : Int32 × Int32 × Int32, K s = some o → G E X 8 [md E a V] 0 0 [(0, .ref (a 0)), (1, .int s.1), (2, .int s.2.1), (3, .int s.2.2)] [] 6) → ∀ s : Int32 × Int32 × Int32 × Int32, b_X6_fault_36 N V K s = some o → G E X 8 [md E a V] 0 0 [(0, .ref (a 0)), (1, .int s.1), (2, .int s.2.1), (3, .int s.2.2.1), (4, .int s.2.2.2)] [] 36 := by
    intro K6 hK6 s hf
    unfold b_X6_fault_36 at hf
    refine g_iconst (v := (1 : Int32)) C dX6_fault_36 (by decide) ?_
    refine g_goto (tgt := 41) C dX6_fault_37 (by decide) ?_
    exact h41 _ hK6 (s.1, s.2.1, s.2.2.1, s.2.2.2, (1 : Int32)) hf
  have h6 : ∀ (n : Nat) (s : Int32 × Int32 × Int32), lp (b_X6_fault_6 N V) n s = some o → G E X 8 [md E a V] 0 0 [(0, .ref (a 0)), (1, .int s.1), (2, .int s.2.1), (3, .int s.2.2)] [] 6 := lp_ind (by
    intro K6 hK6 s hf
    unfold b_X6_fault_6 at hf
    refine g_iload_n C dX6_fault_6 rfl 3 rfl ?_
    refine g_aload_n C dX6_fault_7 rfl 0 rfl ?_
    refine g_get (Cl := RX6) (T := TX6) (N := 14) C mi_X6 0 rfl (List.mem_of_getElem? (i := 0) rfl) rfl 7 (by decide) mt_596 rfl rfl dX6_fault_8 ?_
    refine g_icmp_ge (tgt := 167) C dX6_fault_11 (by decide) (fun c16 => ?_) (fun c16 => ?_)
    · have hf := (f_if hf).1 c16
      refine g_iload_n C dX6_fault_167 rfl 1 rfl ?_
      refine g_if_ne (tgt := 175) C dX6_fault_168 (by decide) (fun c17 => ?_) (fun c17 => ?_)
      · have hf := (f_if hf).2 c17
        refine g_sub (lv2 := [(0, .ref (a 0))]) [0] rfl ?_
        exact h175 () hf
      · have hf := (f_if hf).1 c17
        refine g_iload_n C dX6_fault_171 rfl 2 rfl ?_
        refine g_if_le (tgt := 182) C dX6_fault_172 (by decide) (fun c18 => ?_) (fun c18 => ?_)
        · have hf := (f_if hf).1 c18
          refine g_bipush (v := (-6 : Int32)) C dX6_fault_182 (by decide) ?_
          refine g_sub (lv2 := []) [] rfl ?_
          exact h184 (-6 : Int32) hf
        · have hf := (f_if hf).2 c18
          refine g_sub (lv2 := [(0, .ref (a 0))]) [0] rfl ?_
          exact h175 () hf
    · have hf := (f_if hf).2 c16
      refine g_aload_n C dX6_fault_14 rfl 0 rfl ?_
      refine g_get (Cl := RX6) (T := TX6) (N := 14) C mi_X6 0 rfl (List.mem_of_getElem? (i := 0) rfl) rfl 6 (by decide) mt_595 rfl rfl dX6_fault_15 ?_
      refine g_iload_n C dX6_fault_18 rfl 3 rfl ?_
      obtain ⟨i19, hf⟩ := ix_s hf
      refine g_cald C 0 rfl (List.mem_of_getElem? (i := 6) rfl) i19 dX6_fault_19 ?_
      refine g_istore (lv2 := [(4, .int (V.2.2.2.2.2.2.1 (Int32.toNatClampNeg s.2.2))), (0, .ref (a 0)), (1, .int s.1), (2, .int s.2.1), (3, .int s.2.2)]) C dX6_fault_20 (by decide) rfl ?_
      refine g_iload C dX6_fault_22 0 rfl ?_
      refine g_bipush (v := (33 : Int32)) C dX6_fault_24 (by decide) ?_
      refine g_icmp_eq (tgt := 36) C dX6_fault_26 (by decide) (fun c20 => ?_) (fun c20 => ?_)
      · have hf := (f_if hf).1 c20
        refine g_sub (lv2 := [(0, .ref (a 0)), (1, .int s.1), (2, .int s.2.1), (3, .int s.2.2), (4, .int (V.2.2.2.2.2.2.1 (Int32.toNatClampNeg s.2.2)))]) [1, 2, 3, 4, 0] rfl ?_
        exact h36 _ hK6 (s.1, s.2.1, s.2.2, (V.2.2.2.2.2.2.1 (Int32.toNatClampNeg s.2.2))) hf
      · have hf := (f_if hf).2 c20
        refine g_iload C dX6_fault_29 0 rfl ?_
        refine g_bipush (v := (40 : Int32)) C dX6_fault_31 (by decide) ?_
        refine g_icmp_ne (tgt := 40) C dX6_fault_33 (by decide) (fun c21 => ?_) (fun c21 => ?_)
        · have hf := (f_if hf).2 c21
          refine g_iconst (v := (0 : Int32)) C dX6_fault_40 (by decide) ?_
          refine g_sub (lv2 := [(0, .ref (a 0)), (1, .int s.1), (2, .int s.2.1), (3, .int s.2.2), (4, .int (V.2.2.2.2.2.2.1 (Int32.toNatClampNeg s.2.2)))]) [1, 2, 3, 4, 0] rfl ?_
          exact h41 _ hK6 (s.1, s.2.1, s.2.2, (V.2.2.2.2.2.2.1 (Int32.toNatClampNeg s.2.2)), (0 : Int32)) hf
        · have hf := (f_if hf).1 c21
          refine g_sub (lv2 := [(0, .ref (a 0)), (1, .int s.1), (2, .int s.2.1), (3, .int s.2.2), (4, .int (V.2.2.2.2.2.2.1 (Int32.toNatClampNeg s.2.2)))]) [1, 2, 3, 4, 0] rfl ?_
          exact h36 _ hK6 (s.1, s.2.1, s.2.2, (V.2.2.2.2.2.2.1 (Int32.toNatClampNeg s.2.2))) hf)
  unfold f_X6_fault at hf
  refine g_iconst (v := (1 : Int32)) C dX6_fault_0 (by decide) ?_
  refine g_istore_n (lv2 := [(1, .int (1 : Int32)), (0, .ref (a 0))]) C dX6_fault_1 rfl (by decide) rfl ?_
  refine g_iconst (v := (0 : Int32)) C dX6_fault_2 (by decide) ?_
  refine g_istore_n (lv2 := [(2, .int (0 : Int32)), (1, .int (1 : Int32)), (0, .ref (a 0))]) C dX6_fault_3 rfl (by decide) rfl ?_
  refine g_iconst (v := (0 : Int32)) C dX6_fault_4 (by decide) ?_
  refine g_istore_n (lv2 := [(3, .int (0 : Int32)), (2, .int (0 : Int32)), (1, .int (1 : Int32)), (0, .ref (a 0))]) C dX6_fault_5 rfl (by decide) rfl ?_
  refine g_sub (lv2 := [(0, .ref (a 0)), (1, .int (1 : Int32)), (2, .int (0 : Int32)), (3, .int (0 : Int32))]) [3, 2, 1, 0] rfl ?_
  exact h6 N ((1 : Int32), (0 : Int32), (0 : Int32)) hf
def b_X6_load_50 (N : Nat) (V : Md) (K : (Md × Int32) → Option (Int32 × Md)) (s : Md × Int32 × Int32 × Int32) : Option (Int32 × Md) := (ix s.2.2.1 173 (K (((upd s.1.1 (Int32.toNatClampNeg s.2.2.1) s.2.2.2), s.1.2.1, s.1.2.2.1, s.1.2.2.2.1, s.1.2.2.2.2.1, s.1.2.2.2.2.2.1, s.1.2.2.2.2.2.2.1, s.1.2.2.2.2.2.2.2.1, s.1.2.2.2.2.2.2.2.2.1, s.1.2.2.2.2.2.2.2.2.2.1, s.1.2.2.2.2.2.2.2.2.2.2.1, s.1.2.2.2.2.2.2.2.2.2.2.2.1, s.1.2.2.2.2.2.2.2.2.2.2.2.2.1, s.1.2.2.2.2.2.2.2.2.2.2.2.2.2), (s.2.1 + (1 : Int32)))))
def b_X6_load_18 (N : Nat) (V : Md) (K : (Md × Int32) → Option (Int32 × Md)) (s : Md × Int32) : Option (Int32 × Md) := (if (60 : Int32) ≤ s.2 then ((f_X6_parts N ((upd s.1.1 (Int32.toNatClampNeg (22 : Int32)) s.1.2.2.2.2.2.2.2.1), s.1.2.1, s.1.2.2.1, s.1.2.2.2.1, s.1.2.2.2.2.1, s.1.2.2.2.2.2.1, s.1.2.2.2.2.2.2.1, (0 : Int32), s.1.2.2.2.2.2.2.2.2.1, s.1.2.2.2.2.2.2.2.2.2.1, s.1.2.2.2.2.2.2.2.2.2.2.1, s.1.2.2.2.2.2.2.2.2.2.2.2.1, s.1.2.2.2.2.2.2.2.2.2.2.2.2.1, s.1.2.2.2.2.2.2.2.2.2.2.2.2.2)).bind fun o3 => some (o3, ((upd s.1.1 (Int32.toNatClampNeg (22 : Int32)) s.1.2.2.2.2.2.2.2.1), s.1.2.1, s.1.2.2.1, s.1.2.2.2.1, s.1.2.2.2.2.1, s.1.2.2.2.2.2.1, s.1.2.2.2.2.2.2.1, (0 : Int32), s.1.2.2.2.2.2.2.2.2.1, s.1.2.2.2.2.2.2.2.2.2.1, s.1.2.2.2.2.2.2.2.2.2.2.1, s.1.2.2.2.2.2.2.2.2.2.2.2.1, s.1.2.2.2.2.2.2.2.2.2.2.2.2.1, s.1.2.2.2.2.2.2.2.2.2.2.2.2.2))) else (if s.1.2.2.2.2.2.2.2.1 ≤ s.2 then b_X6_load_50 N V K (s.1, s.2, ((23 : Int32) + s.2), (0 : Int32)) else (ix s.2 60 (b_X6_load_50 N V K (s.1, s.2, ((23 : Int32) + s.2), (s.1.2.2.2.2.2.2.1 (Int32.toNatClampNeg s.2)))))))
def f_X6_load (N : Nat) (V : Md) : Option (Int32 × Md) := ((f_X6_fault N V).bind fun o7 => (if o7 = (-6 : Int32) then ((f_X6_record N V).bind fun o10 => lp (b_X6_load_18 N V) N (o10, (0 : Int32))) else some ((-3 : Int32), V)))
abbrev rm_X6_load : Room := { frames := 2, cells := 0, slots := 0, locals := 47 }
set_option maxRecDepth 100000 in
theorem k_X6_load : CF yX6_load cX6_load 2 (some .int) 0 := ⟨mt_831, mt_832, mt_13, mt_833, ⟨rfl, by decide +kernel, by decide +kernel, by decide +kernel⟩⟩
set_option maxHeartbeats 4000000 in
set_option maxRecDepth 100000 in
theorem c_X6_load {E : Ev} {a : Nat → Nat} {V : Md} {N : Nat} {o : Int32 × Md} (hf : f_X6_load N V = some o) : ∀ l, MG l yX6_load cX6_load 2 (some .int) rm_X6_load E [.ref (a 0)] [md E a V] (fun v Y => v = some (.int o.1) ∧ Y = [md E a o.2]) := by
  refine MG.mk (own := RX6) (lv0 := [(0, .ref (a 0))]) (by decide) rfl (Nat.le_of_ble_eq_true rfl) rfl (fun X C K I => ?_)
  have h50 : ∀ (K : (Md × Int32) → Option (Int32 × Md)), (∀ s : Md × Int32, K s = some o → G E X 2 [md E a s.1] 0 0 [(0, .ref (a 0)), (1, .int s.2)] [] 18) → ∀ s : Md × Int32 × Int32 × Int32, b_X6_load_50 N V K s = some o → G E X 2 [md E a s.1] 0 0 [(0, .ref (a 0)), (1, .int s.2.1)] [.int s.2.2.2, .int s.2.2.1, .ref (a 1)] 50 := by
    intro K18 hK18 s hf
    unfold b_X6_load_50 at hf
    obtain ⟨i1, hf⟩ := ix_s hf
    refine g_iast (Y2 := [md E a ((upd s.1.1 (Int32.toNatClampNeg s.2.2.1) s.2.2.2), s.1.2.1, s.1.2.2.1, s.1.2.2.2.1, s.1.2.2.2.2.1, s.1.2.2.2.2.2.1, s.1.2.2.2.2.2.2.1, s.1.2.2.2.2.2.2.2.1, s.1.2.2.2.2.2.2.2.2.1, s.1.2.2.2.2.2.2.2.2.2.1, s.1.2.2.2.2.2.2.2.2.2.2.1, s.1.2.2.2.2.2.2.2.2.2.2.2.1, s.1.2.2.2.2.2.2.2.2.2.2.2.2.1, s.1.2.2.2.2.2.2.2.2.2.2.2.2.2)]) C 0 1 rfl rfl i1 dX6_load_50 rfl ?_
    refine g_iinc (v := (s.2.1 + (1 : Int32))) (lv2 := [(1, .int (s.2.1 + (1 : Int32))), (0, .ref (a 0))]) C dX6_load_51 1 rfl (ii (by decide)) (by decide) rfl ?_
    refine g_goto (tgt := 18) C dX6_load_54 (by decide) ?_
    refine g_sub (lv2 := [(0, .ref (a 0)), (1, .int (s.2.1 + (1 : Int32)))]) [1, 0] rfl ?_
    exact hK18 (((upd s.1.1 (Int32.toNatClampNeg s.2.2.1) s.2.2.2), s.1.2.1, s.1.2.2.1, s.1.2.2.2.1, s.1.2.2.2.2.1, s.1.2.2.2.2.2.1, s.1.2.2.2.2.2.2.1, s.1.2.2.2.2.2.2.2.1, s.1.2.2.2.2.2.2.2.2.1, s.1.2.2.2.2.2.2.2.2.2.1, s.1.2.2.2.2.2.2.2.2.2.2.1, s.1.2.2.2.2.2.2.2.2.2.2.2.1, s.1.2.2.2.2.2.2.2.2.2.2.2.2.1, s.1.2.2.2.2.2.2.2.2.2.2.2.2.2), (s.2.1 + (1 : Int32))) hf
  have h18 : ∀ (n : Nat) (s : Md × Int32), lp (b_X6_load_18 N V) n s = some o → G E X 2 [md E a s.1] 0 0 [(0, .ref (a 0)), (1, .int s.2)] [] 18 := lp_ind (by
    intro K18 hK18 s hf
    unfold b_X6_load_18 at hf
    refine g_iload_n C dX6_load_18 rfl 1 rfl ?_
    refine g_bipush (v := (60 : Int32)) C dX6_load_19 (by decide) ?_
    refine g_icmp_ge (tgt := 57) C dX6_load_21 (by decide) (fun c2 => ?_) (fun c2 => ?_)
    · have hf := (f_if hf).1 c2
      refine g_aload_n C dX6_load_57 rfl 0 rfl ?_
      refine g_get (Cl := RX6) (T := TX6) (N := 14) C mi_X6 0 rfl (List.mem_of_getElem? (i := 0) rfl) rfl 0 (by decide) mt_589 rfl rfl dX6_load_58 ?_
      refine g_bipush (v := (22 : Int32)) C dX6_load_61 (by decide) ?_
      refine g_aload_n C dX6_load_63 rfl 0 rfl ?_
      refine g_get (Cl := RX6) (T := TX6) (N := 14) C mi_X6 0 rfl (List.mem_of_getElem? (i := 0) rfl) rfl 7 (by decide) mt_596 rfl rfl dX6_load_64 ?_
      refine g_iast (Y2 := [md E a ((upd s.1.1 (Int32.toNatClampNeg (22 : Int32)) s.1.2.2.2.2.2.2.2.1), s.1.2.1, s.1.2.2.1, s.1.2.2.2.1, s.1.2.2.2.2.1, s.1.2.2.2.2.2.1, s.1.2.2.2.2.2.2.1, s.1.2.2.2.2.2.2.2.1, s.1.2.2.2.2.2.2.2.2.1, s.1.2.2.2.2.2.2.2.2.2.1, s.1.2.2.2.2.2.2.2.2.2.2.1, s.1.2.2.2.2.2.2.2.2.2.2.2.1, s.1.2.2.2.2.2.2.2.2.2.2.2.2.1, s.1.2.2.2.2.2.2.2.2.2.2.2.2.2)]) C 0 1 rfl rfl (by show ¬ (_ ∨ _); decide) dX6_load_67 rfl ?_
      refine g_aload_n C dX6_load_68 rfl 0 rfl ?_
      refine g_iconst (v := (0 : Int32)) C dX6_load_69 (by decide) ?_
      refine g_put (Cl := RX6) (T := TX6) (N := 14) (Y2 := [md E a ((upd s.1.1 (Int32.toNatClampNeg (22 : Int32)) s.1.2.2.2.2.2.2.2.1), s.1.2.1, s.1.2.2.1, s.1.2.2.2.1, s.1.2.2.2.2.1, s.1.2.2.2.2.2.1, s.1.2.2.2.2.2.2.1, (0 : Int32), s.1.2.2.2.2.2.2.2.2.1, s.1.2.2.2.2.2.2.2.2.2.1, s.1.2.2.2.2.2.2.2.2.2.2.1, s.1.2.2.2.2.2.2.2.2.2.2.2.1, s.1.2.2.2.2.2.2.2.2.2.2.2.2.1, s.1.2.2.2.2.2.2.2.2.2.2.2.2.2)]) C mi_X6 tyX6_ok nmX6 0 0 rfl rfl rfl 7 (by decide) mt_596 rfl rfl rfl rfl rfl (Nat.le_of_ble_eq_true rfl) dX6_load_70 rfl ?_
      refine g_aload_n C dX6_load_73 rfl 0 rfl ?_
      obtain ⟨o3, h4, hf⟩ := bind_s hf
      refine g_callV (As := []) (rest := []) C k_X6_parts (fun l => c_X6_parts (E := E) (a := a) (V := ((upd s.1.1 (Int32.toNatClampNeg (22 : Int32)) s.1.2.2.2.2.2.2.2.1), s.1.2.1, s.1.2.2.1, s.1.2.2.2.1, s.1.2.2.2.2.1, s.1.2.2.2.2.2.1, s.1.2.2.2.2.2.2.1, (0 : Int32), s.1.2.2.2.2.2.2.2.2.1, s.1.2.2.2.2.2.2.2.2.2.1, s.1.2.2.2.2.2.2.2.2.2.2.1, s.1.2.2.2.2.2.2.2.2.2.2.2.1, s.1.2.2.2.2.2.2.2.2.2.2.2.2.1, s.1.2.2.2.2.2.2.2.2.2.2.2.2.2)) h4 l) mt_677 [0] rfl (by decide) ⟨_, _, _, _, List.mem_flatten.mpr ⟨_, List.mem_of_getElem? (i := 0) rfl, List.mem_of_getElem? (i := 0) rfl⟩, rfl⟩ rfl (Nat.le_of_ble_eq_true rfl) ⟨Nat.le_of_ble_eq_true rfl, Nat.le_of_ble_eq_true rfl, Nat.le_of_ble_eq_true rfl, Nat.le_of_ble_eq_true rfl⟩ dX6_load_74 ?_
      rintro _ _ ⟨rfl, rfl⟩
      show G E X 2 [md E a ((upd s.1.1 (Int32.toNatClampNeg (22 : Int32)) s.1.2.2.2.2.2.2.2.1), s.1.2.1, s.1.2.2.1, s.1.2.2.2.1, s.1.2.2.2.2.1, s.1.2.2.2.2.2.1, s.1.2.2.2.2.2.2.1, (0 : Int32), s.1.2.2.2.2.2.2.2.2.1, s.1.2.2.2.2.2.2.2.2.2.1, s.1.2.2.2.2.2.2.2.2.2.2.1, s.1.2.2.2.2.2.2.2.2.2.2.2.1, s.1.2.2.2.2.2.2.2.2.2.2.2.2.1, s.1.2.2.2.2.2.2.2.2.2.2.2.2.2)] 0 0 [(0, .ref (a 0)), (1, .int s.2)] [.int o3] 77
      obtain rfl := Option.some.inj hf
      exact g_iret C K dX6_load_77 (Nat.le_of_ble_eq_true rfl) (Nat.le_of_ble_eq_true rfl) ⟨rfl, rfl⟩
    · have hf := (f_if hf).2 c2
      refine g_aload_n C dX6_load_24 rfl 0 rfl ?_
      refine g_get (Cl := RX6) (T := TX6) (N := 14) C mi_X6 0 rfl (List.mem_of_getElem? (i := 0) rfl) rfl 0 (by decide) mt_589 rfl rfl dX6_load_25 ?_
      refine g_bipush (v := (23 : Int32)) C dX6_load_28 (by decide) ?_
      refine g_iload_n C dX6_load_30 rfl 1 rfl ?_
      refine g_iadd C dX6_load_31 ?_
      refine g_iload_n C dX6_load_32 rfl 1 rfl ?_
      refine g_aload_n C dX6_load_33 rfl 0 rfl ?_
      refine g_get (Cl := RX6) (T := TX6) (N := 14) C mi_X6 0 rfl (List.mem_of_getElem? (i := 0) rfl) rfl 7 (by decide) mt_596 rfl rfl dX6_load_34 ?_
      refine g_icmp_ge (tgt := 49) C dX6_load_37 (by decide) (fun c5 => ?_) (fun c5 => ?_)
      · have hf := (f_if hf).1 c5
        refine g_iconst (v := (0 : Int32)) C dX6_load_49 (by decide) ?_
        exact h50 _ hK18 (s.1, s.2, ((23 : Int32) + s.2), (0 : Int32)) hf
      · have hf := (f_if hf).2 c5
        refine g_aload_n C dX6_load_40 rfl 0 rfl ?_
        refine g_get (Cl := RX6) (T := TX6) (N := 14) C mi_X6 0 rfl (List.mem_of_getElem? (i := 0) rfl) rfl 6 (by decide) mt_595 rfl rfl dX6_load_41 ?_
        refine g_iload_n C dX6_load_44 rfl 1 rfl ?_
        obtain ⟨i6, hf⟩ := ix_s hf
        refine g_cald C 0 rfl (List.mem_of_getElem? (i := 6) rfl) i6 dX6_load_45 ?_
        refine g_goto (tgt := 50) C dX6_load_46 (by decide) ?_
        exact h50 _ hK18 (s.1, s.2, ((23 : Int32) + s.2), (s.1.2.2.2.2.2.2.1 (Int32.toNatClampNeg s.2))) hf)
  unfold f_X6_load at hf
  refine g_aload_n C dX6_load_0 rfl 0 rfl ?_
  obtain ⟨o7, h8, hf⟩ := bind_s hf
  refine g_callV (As := []) (rest := []) C k_X6_fault (fun l => c_X6_fault (E := E) (a := a) (V := V) h8 l) mt_834 [0] rfl (by decide) ⟨_, _, _, _, List.mem_flatten.mpr ⟨_, List.mem_of_getElem? (i := 0) rfl, List.mem_of_getElem? (i := 0) rfl⟩, rfl⟩ rfl (Nat.le_of_ble_eq_true rfl) ⟨Nat.le_of_ble_eq_true rfl, Nat.le_of_ble_eq_true rfl, Nat.le_of_ble_eq_true rfl, Nat.le_of_ble_eq_true rfl⟩ dX6_load_1 ?_
  rintro _ _ ⟨rfl, rfl⟩
  show G E X 2 [md E a V] 0 0 [(0, .ref (a 0))] [.int o7] 4
  refine g_bipush (v := (-6 : Int32)) C dX6_load_4 (by decide) ?_
  refine g_icmp_eq (tgt := 12) C dX6_load_6 (by decide) (fun c9 => ?_) (fun c9 => ?_)
  · have hf := (f_if hf).1 c9
    refine g_aload_n C dX6_load_12 rfl 0 rfl ?_
    obtain ⟨o10, h11, hf⟩ := bind_s hf
    refine g_callV (As := []) (rest := []) C k_X6_record (fun l => c_X6_record (E := E) (a := a) (V := V) h11 l) mt_647 [0] rfl (by decide) ⟨_, _, _, _, List.mem_flatten.mpr ⟨_, List.mem_of_getElem? (i := 0) rfl, List.mem_of_getElem? (i := 0) rfl⟩, rfl⟩ rfl (Nat.le_of_ble_eq_true rfl) ⟨Nat.le_of_ble_eq_true rfl, Nat.le_of_ble_eq_true rfl, Nat.le_of_ble_eq_true rfl, Nat.le_of_ble_eq_true rfl⟩ dX6_load_13 ?_
    rintro _ _ ⟨rfl, rfl⟩
    show G E X 2 [md E a o10] 0 0 [(0, .ref (a 0))] [] 16
    refine g_iconst (v := (0 : Int32)) C dX6_load_16 (by decide) ?_
    refine g_istore_n (lv2 := [(1, .int (0 : Int32)), (0, .ref (a 0))]) C dX6_load_17 rfl (by decide) rfl ?_
    refine g_sub (lv2 := [(0, .ref (a 0)), (1, .int (0 : Int32))]) [1, 0] rfl ?_
    exact h18 N (o10, (0 : Int32)) hf
  · have hf := (f_if hf).2 c9
    refine g_bipush (v := (-3 : Int32)) C dX6_load_9 (by decide) ?_
    obtain rfl := Option.some.inj hf
    exact g_iret C K dX6_load_11 (Nat.le_of_ble_eq_true rfl) (Nat.le_of_ble_eq_true rfl) ⟨rfl, rfl⟩
def b_X6_undo_22 (N : Nat) (V : Md) (K : (Md × Int32) → Option (Int32 × Md)) (s : Md × Int32) : Option (Int32 × Md) := (if (173 : Int32) ≤ s.2 then some (s.1.2.2.2.2.1, s.1) else (ix ((s.1.2.2.2.2.1 * (173 : Int32)) + s.2) 1038 (ix s.2 173 (K (((upd s.1.1 (Int32.toNatClampNeg s.2) (s.1.2.1 (Int32.toNatClampNeg ((s.1.2.2.2.2.1 * (173 : Int32)) + s.2)))), s.1.2.1, s.1.2.2.1, s.1.2.2.2.1, s.1.2.2.2.2.1, s.1.2.2.2.2.2.1, s.1.2.2.2.2.2.2.1, s.1.2.2.2.2.2.2.2.1, s.1.2.2.2.2.2.2.2.2.1, s.1.2.2.2.2.2.2.2.2.2.1, s.1.2.2.2.2.2.2.2.2.2.2.1, s.1.2.2.2.2.2.2.2.2.2.2.2.1, s.1.2.2.2.2.2.2.2.2.2.2.2.2.1, s.1.2.2.2.2.2.2.2.2.2.2.2.2.2), (s.2 + (1 : Int32)))))))
def f_X6_undo (N : Nat) (V : Md) : Option (Int32 × Md) := (if V.2.2.2.2.1 = 0 then some ((-5 : Int32), V) else lp (b_X6_undo_22 N V) N ((V.1, V.2.1, V.2.2.1, V.2.2.2.1, (V.2.2.2.2.1 - (1 : Int32)), V.2.2.2.2.2.1, V.2.2.2.2.2.2.1, V.2.2.2.2.2.2.2.1, V.2.2.2.2.2.2.2.2.1, V.2.2.2.2.2.2.2.2.2.1, V.2.2.2.2.2.2.2.2.2.2.1, V.2.2.2.2.2.2.2.2.2.2.2.1, V.2.2.2.2.2.2.2.2.2.2.2.2.1, V.2.2.2.2.2.2.2.2.2.2.2.2.2), (0 : Int32)))
abbrev rm_X6_undo : Room := { frames := 0, cells := 0, slots := 0, locals := 0 }
set_option maxRecDepth 100000 in
theorem k_X6_undo : CF yX6_undo cX6_undo 2 (some .int) 0 := ⟨mt_633, mt_634, mt_13, mt_635, ⟨rfl, by decide +kernel, by decide +kernel, by decide +kernel⟩⟩
set_option maxHeartbeats 4000000 in
set_option maxRecDepth 100000 in
theorem c_X6_undo {E : Ev} {a : Nat → Nat} {V : Md} {N : Nat} {o : Int32 × Md} (hf : f_X6_undo N V = some o) : ∀ l, MG l yX6_undo cX6_undo 2 (some .int) rm_X6_undo E [.ref (a 0)] [md E a V] (fun v Y => v = some (.int o.1) ∧ Y = [md E a o.2]) := by
  refine MG.mk (own := RX6) (lv0 := [(0, .ref (a 0))]) (by decide) rfl (Nat.le_of_ble_eq_true rfl) rfl (fun X C K I => ?_)
  have h22 : ∀ (n : Nat) (s : Md × Int32), lp (b_X6_undo_22 N V) n s = some o → G E X 2 [md E a s.1] 0 0 [(0, .ref (a 0)), (1, .int s.2)] [] 22 := lp_ind (by
    intro K22 hK22 s hf
    unfold b_X6_undo_22 at hf
    refine g_iload_n C dX6_undo_22 rfl 1 rfl ?_
    refine g_sipush (v := (173 : Int32)) C dX6_undo_23 (by decide) ?_
    refine g_icmp_ge (tgt := 56) C dX6_undo_26 (by decide) (fun c1 => ?_) (fun c1 => ?_)
    · have hf := (f_if hf).1 c1
      refine g_aload_n C dX6_undo_56 rfl 0 rfl ?_
      refine g_get (Cl := RX6) (T := TX6) (N := 14) C mi_X6 0 rfl (List.mem_of_getElem? (i := 0) rfl) rfl 4 (by decide) mt_593 rfl rfl dX6_undo_57 ?_
      obtain rfl := Option.some.inj hf
      exact g_iret C K dX6_undo_60 (Nat.le_of_ble_eq_true rfl) (Nat.le_of_ble_eq_true rfl) ⟨rfl, rfl⟩
    · have hf := (f_if hf).2 c1
      refine g_aload_n C dX6_undo_29 rfl 0 rfl ?_
      refine g_get (Cl := RX6) (T := TX6) (N := 14) C mi_X6 0 rfl (List.mem_of_getElem? (i := 0) rfl) rfl 0 (by decide) mt_589 rfl rfl dX6_undo_30 ?_
      refine g_iload_n C dX6_undo_33 rfl 1 rfl ?_
      refine g_aload_n C dX6_undo_34 rfl 0 rfl ?_
      refine g_get (Cl := RX6) (T := TX6) (N := 14) C mi_X6 0 rfl (List.mem_of_getElem? (i := 0) rfl) rfl 1 (by decide) mt_590 rfl rfl dX6_undo_35 ?_
      refine g_aload_n C dX6_undo_38 rfl 0 rfl ?_
      refine g_get (Cl := RX6) (T := TX6) (N := 14) C mi_X6 0 rfl (List.mem_of_getElem? (i := 0) rfl) rfl 4 (by decide) mt_593 rfl rfl dX6_undo_39 ?_
      refine g_sipush (v := (173 : Int32)) C dX6_undo_42 (by decide) ?_
      refine g_imul C dX6_undo_45 ?_
      refine g_iload_n C dX6_undo_46 rfl 1 rfl ?_
      refine g_iadd C dX6_undo_47 ?_
      obtain ⟨i2, hf⟩ := ix_s hf
      refine g_iald C 0 rfl (List.mem_of_getElem? (i := 2) rfl) i2 dX6_undo_48 ?_
      obtain ⟨i3, hf⟩ := ix_s hf
      refine g_iast (Y2 := [md E a ((upd s.1.1 (Int32.toNatClampNeg s.2) (s.1.2.1 (Int32.toNatClampNeg ((s.1.2.2.2.2.1 * (173 : Int32)) + s.2)))), s.1.2.1, s.1.2.2.1, s.1.2.2.2.1, s.1.2.2.2.2.1, s.1.2.2.2.2.2.1, s.1.2.2.2.2.2.2.1, s.1.2.2.2.2.2.2.2.1, s.1.2.2.2.2.2.2.2.2.1, s.1.2.2.2.2.2.2.2.2.2.1, s.1.2.2.2.2.2.2.2.2.2.2.1, s.1.2.2.2.2.2.2.2.2.2.2.2.1, s.1.2.2.2.2.2.2.2.2.2.2.2.2.1, s.1.2.2.2.2.2.2.2.2.2.2.2.2.2)]) C 0 1 rfl rfl i3 dX6_undo_49 rfl ?_
      refine g_iinc (v := (s.2 + (1 : Int32))) (lv2 := [(1, .int (s.2 + (1 : Int32))), (0, .ref (a 0))]) C dX6_undo_50 1 rfl (ii (by decide)) (by decide) rfl ?_
      refine g_goto (tgt := 22) C dX6_undo_53 (by decide) ?_
      refine g_sub (lv2 := [(0, .ref (a 0)), (1, .int (s.2 + (1 : Int32)))]) [1, 0] rfl ?_
      exact hK22 (((upd s.1.1 (Int32.toNatClampNeg s.2) (s.1.2.1 (Int32.toNatClampNeg ((s.1.2.2.2.2.1 * (173 : Int32)) + s.2)))), s.1.2.1, s.1.2.2.1, s.1.2.2.2.1, s.1.2.2.2.2.1, s.1.2.2.2.2.2.1, s.1.2.2.2.2.2.2.1, s.1.2.2.2.2.2.2.2.1, s.1.2.2.2.2.2.2.2.2.1, s.1.2.2.2.2.2.2.2.2.2.1, s.1.2.2.2.2.2.2.2.2.2.2.1, s.1.2.2.2.2.2.2.2.2.2.2.2.1, s.1.2.2.2.2.2.2.2.2.2.2.2.2.1, s.1.2.2.2.2.2.2.2.2.2.2.2.2.2), (s.2 + (1 : Int32))) hf)
  unfold f_X6_undo at hf
  refine g_aload_n C dX6_undo_0 rfl 0 rfl ?_
  refine g_get (Cl := RX6) (T := TX6) (N := 14) C mi_X6 0 rfl (List.mem_of_getElem? (i := 0) rfl) rfl 4 (by decide) mt_593 rfl rfl dX6_undo_1 ?_
  refine g_if_ne (tgt := 10) C dX6_undo_4 (by decide) (fun c4 => ?_) (fun c4 => ?_)
  · have hf := (f_if hf).2 c4
    refine g_aload_n C dX6_undo_10 rfl 0 rfl ?_
    refine g_dup C dX6_undo_11 rfl ?_
    refine g_get (Cl := RX6) (T := TX6) (N := 14) C mi_X6 0 rfl (List.mem_of_getElem? (i := 0) rfl) rfl 4 (by decide) mt_593 rfl rfl dX6_undo_12 ?_
    refine g_iconst (v := (1 : Int32)) C dX6_undo_15 (by decide) ?_
    refine g_isub C dX6_undo_16 ?_
    refine g_put (Cl := RX6) (T := TX6) (N := 14) (Y2 := [md E a (V.1, V.2.1, V.2.2.1, V.2.2.2.1, (V.2.2.2.2.1 - (1 : Int32)), V.2.2.2.2.2.1, V.2.2.2.2.2.2.1, V.2.2.2.2.2.2.2.1, V.2.2.2.2.2.2.2.2.1, V.2.2.2.2.2.2.2.2.2.1, V.2.2.2.2.2.2.2.2.2.2.1, V.2.2.2.2.2.2.2.2.2.2.2.1, V.2.2.2.2.2.2.2.2.2.2.2.2.1, V.2.2.2.2.2.2.2.2.2.2.2.2.2)]) C mi_X6 tyX6_ok nmX6 0 0 rfl rfl rfl 4 (by decide) mt_593 rfl rfl rfl rfl rfl (Nat.le_of_ble_eq_true rfl) dX6_undo_17 rfl ?_
    refine g_iconst (v := (0 : Int32)) C dX6_undo_20 (by decide) ?_
    refine g_istore_n (lv2 := [(1, .int (0 : Int32)), (0, .ref (a 0))]) C dX6_undo_21 rfl (by decide) rfl ?_
    refine g_sub (lv2 := [(0, .ref (a 0)), (1, .int (0 : Int32))]) [1, 0] rfl ?_
    exact h22 N ((V.1, V.2.1, V.2.2.1, V.2.2.2.1, (V.2.2.2.2.1 - (1 : Int32)), V.2.2.2.2.2.1, V.2.2.2.2.2.2.1, V.2.2.2.2.2.2.2.1, V.2.2.2.2.2.2.2.2.1, V.2.2.2.2.2.2.2.2.2.1, V.2.2.2.2.2.2.2.2.2.2.1, V.2.2.2.2.2.2.2.2.2.2.2.1, V.2.2.2.2.2.2.2.2.2.2.2.2.1, V.2.2.2.2.2.2.2.2.2.2.2.2.2), (0 : Int32)) hf
  · have hf := (f_if hf).1 c4
    refine g_bipush (v := (-5 : Int32)) C dX6_undo_7 (by decide) ?_
    obtain rfl := Option.some.inj hf
    exact g_iret C K dX6_undo_9 (Nat.le_of_ble_eq_true rfl) (Nat.le_of_ble_eq_true rfl) ⟨rfl, rfl⟩
def b_X6_save_21 (N : Nat) (V : Md) (p0 : Int32) (K : (Md × Int32) → Option (Int32 × Md)) (s : Md × Int32) : Option (Int32 × Md) := (if (173 : Int32) ≤ s.2 then some ((s.1.1 (Int32.toNatClampNeg (10 : Int32))), s.1) else (ix s.2 173 (ix ((p0 * (173 : Int32)) + s.2) 346 (K ((s.1.1, s.1.2.1, (upd s.1.2.2.1 (Int32.toNatClampNeg ((p0 * (173 : Int32)) + s.2)) (s.1.1 (Int32.toNatClampNeg s.2))), s.1.2.2.2.1, s.1.2.2.2.2.1, s.1.2.2.2.2.2.1, s.1.2.2.2.2.2.2.1, s.1.2.2.2.2.2.2.2.1, s.1.2.2.2.2.2.2.2.2.1, s.1.2.2.2.2.2.2.2.2.2.1, s.1.2.2.2.2.2.2.2.2.2.2.1, s.1.2.2.2.2.2.2.2.2.2.2.2.1, s.1.2.2.2.2.2.2.2.2.2.2.2.2.1, s.1.2.2.2.2.2.2.2.2.2.2.2.2.2), (s.2 + (1 : Int32)))))))
def f_X6_save (N : Nat) (V : Md) (p0 : Int32) : Option (Int32 × Md) := ((f_X6_in p0 (0 : Int32) (1 : Int32)).bind fun o4 => (if o4 = 0 then some ((-2 : Int32), V) else (ix p0 2 (lp (b_X6_save_21 N V p0) N ((V.1, V.2.1, V.2.2.1, (upd V.2.2.2.1 (Int32.toNatClampNeg p0) (vp_nar .boolean (1 : Int32))), V.2.2.2.2.1, V.2.2.2.2.2.1, V.2.2.2.2.2.2.1, V.2.2.2.2.2.2.2.1, V.2.2.2.2.2.2.2.2.1, V.2.2.2.2.2.2.2.2.2.1, V.2.2.2.2.2.2.2.2.2.2.1, V.2.2.2.2.2.2.2.2.2.2.2.1, V.2.2.2.2.2.2.2.2.2.2.2.2.1, V.2.2.2.2.2.2.2.2.2.2.2.2.2), (0 : Int32))))))
abbrev rm_X6_save : Room := { frames := 1, cells := 0, slots := 0, locals := 22 }
set_option maxRecDepth 100000 in
theorem k_X6_save : CF yX6_save cX6_save 3 (some .int) 1 := ⟨mt_637, mt_638, mt_13, mt_639, ⟨rfl, by decide +kernel, by decide +kernel, by decide +kernel⟩⟩
set_option maxHeartbeats 4000000 in
set_option maxRecDepth 100000 in
theorem c_X6_save {E : Ev} {a : Nat → Nat} {V : Md} {p0 : Int32} {N : Nat} {o : Int32 × Md} (hf : f_X6_save N V p0 = some o) : ∀ l, MG l yX6_save cX6_save 3 (some .int) rm_X6_save E [.ref (a 0), .int p0] [md E a V] (fun v Y => v = some (.int o.1) ∧ Y = [md E a o.2]) := by
  refine MG.mk (own := RX6) (lv0 := [(0, .ref (a 0)), (1, .int p0)]) (by decide) rfl (Nat.le_of_ble_eq_true rfl) rfl (fun X C K I => ?_)
  have h21 : ∀ (n : Nat) (s : Md × Int32), lp (b_X6_save_21 N V p0) n s = some o → G E X 3 [md E a s.1] 0 0 [(0, .ref (a 0)), (1, .int p0), (2, .int s.2)] [] 21 := lp_ind (by
    intro K21 hK21 s hf
    unfold b_X6_save_21 at hf
    refine g_iload_n C dX6_save_21 rfl 2 rfl ?_
    refine g_sipush (v := (173 : Int32)) C dX6_save_22 (by decide) ?_
    refine g_icmp_ge (tgt := 52) C dX6_save_25 (by decide) (fun c1 => ?_) (fun c1 => ?_)
    · have hf := (f_if hf).1 c1
      refine g_aload_n C dX6_save_52 rfl 0 rfl ?_
      refine g_get (Cl := RX6) (T := TX6) (N := 14) C mi_X6 0 rfl (List.mem_of_getElem? (i := 0) rfl) rfl 0 (by decide) mt_589 rfl rfl dX6_save_53 ?_
      refine g_bipush (v := (10 : Int32)) C dX6_save_56 (by decide) ?_
      refine g_iald C 0 rfl (List.mem_of_getElem? (i := 1) rfl) (by show ¬ (_ ∨ _); decide) dX6_save_58 ?_
      obtain rfl := Option.some.inj hf
      exact g_iret C K dX6_save_59 (Nat.le_of_ble_eq_true rfl) (Nat.le_of_ble_eq_true rfl) ⟨rfl, rfl⟩
    · have hf := (f_if hf).2 c1
      refine g_aload_n C dX6_save_28 rfl 0 rfl ?_
      refine g_get (Cl := RX6) (T := TX6) (N := 14) C mi_X6 0 rfl (List.mem_of_getElem? (i := 0) rfl) rfl 2 (by decide) mt_591 rfl rfl dX6_save_29 ?_
      refine g_iload_n C dX6_save_32 rfl 1 rfl ?_
      refine g_sipush (v := (173 : Int32)) C dX6_save_33 (by decide) ?_
      refine g_imul C dX6_save_36 ?_
      refine g_iload_n C dX6_save_37 rfl 2 rfl ?_
      refine g_iadd C dX6_save_38 ?_
      refine g_aload_n C dX6_save_39 rfl 0 rfl ?_
      refine g_get (Cl := RX6) (T := TX6) (N := 14) C mi_X6 0 rfl (List.mem_of_getElem? (i := 0) rfl) rfl 0 (by decide) mt_589 rfl rfl dX6_save_40 ?_
      refine g_iload_n C dX6_save_43 rfl 2 rfl ?_
      obtain ⟨i2, hf⟩ := ix_s hf
      refine g_iald C 0 rfl (List.mem_of_getElem? (i := 1) rfl) i2 dX6_save_44 ?_
      obtain ⟨i3, hf⟩ := ix_s hf
      refine g_iast (Y2 := [md E a (s.1.1, s.1.2.1, (upd s.1.2.2.1 (Int32.toNatClampNeg ((p0 * (173 : Int32)) + s.2)) (s.1.1 (Int32.toNatClampNeg s.2))), s.1.2.2.2.1, s.1.2.2.2.2.1, s.1.2.2.2.2.2.1, s.1.2.2.2.2.2.2.1, s.1.2.2.2.2.2.2.2.1, s.1.2.2.2.2.2.2.2.2.1, s.1.2.2.2.2.2.2.2.2.2.1, s.1.2.2.2.2.2.2.2.2.2.2.1, s.1.2.2.2.2.2.2.2.2.2.2.2.1, s.1.2.2.2.2.2.2.2.2.2.2.2.2.1, s.1.2.2.2.2.2.2.2.2.2.2.2.2.2)]) C 0 3 rfl rfl i3 dX6_save_45 rfl ?_
      refine g_iinc (v := (s.2 + (1 : Int32))) (lv2 := [(2, .int (s.2 + (1 : Int32))), (0, .ref (a 0)), (1, .int p0)]) C dX6_save_46 2 rfl (ii (by decide)) (by decide) rfl ?_
      refine g_goto (tgt := 21) C dX6_save_49 (by decide) ?_
      refine g_sub (lv2 := [(0, .ref (a 0)), (1, .int p0), (2, .int (s.2 + (1 : Int32)))]) [1, 2, 0] rfl ?_
      exact hK21 ((s.1.1, s.1.2.1, (upd s.1.2.2.1 (Int32.toNatClampNeg ((p0 * (173 : Int32)) + s.2)) (s.1.1 (Int32.toNatClampNeg s.2))), s.1.2.2.2.1, s.1.2.2.2.2.1, s.1.2.2.2.2.2.1, s.1.2.2.2.2.2.2.1, s.1.2.2.2.2.2.2.2.1, s.1.2.2.2.2.2.2.2.2.1, s.1.2.2.2.2.2.2.2.2.2.1, s.1.2.2.2.2.2.2.2.2.2.2.1, s.1.2.2.2.2.2.2.2.2.2.2.2.1, s.1.2.2.2.2.2.2.2.2.2.2.2.2.1, s.1.2.2.2.2.2.2.2.2.2.2.2.2.2), (s.2 + (1 : Int32))) hf)
  unfold f_X6_save at hf
  refine g_iload_n C dX6_save_0 rfl 1 rfl ?_
  refine g_iconst (v := (0 : Int32)) C dX6_save_1 (by decide) ?_
  refine g_iconst (v := (1 : Int32)) C dX6_save_2 (by decide) ?_
  obtain ⟨o4, h5, hf⟩ := bind_s hf
  refine g_callS (As := [.int p0, .int (0 : Int32), .int (1 : Int32)]) (rest := []) C k_X6_in (fun l => c_X6_in (E := E) h5 l) mt_640 [] rfl (by decide) rfl (Nat.le_of_ble_eq_true rfl) ⟨Nat.le_of_ble_eq_true rfl, Nat.le_of_ble_eq_true rfl, Nat.le_of_ble_eq_true rfl, Nat.le_of_ble_eq_true rfl⟩ dX6_save_3 ?_
  rintro _ _ ⟨rfl, rfl⟩
  show G E X 3 [md E a V] 0 0 [(0, .ref (a 0)), (1, .int p0)] [.int o4] 6
  refine g_if_ne (tgt := 12) C dX6_save_6 (by decide) (fun c6 => ?_) (fun c6 => ?_)
  · have hf := (f_if hf).2 c6
    refine g_aload_n C dX6_save_12 rfl 0 rfl ?_
    refine g_get (Cl := RX6) (T := TX6) (N := 14) C mi_X6 0 rfl (List.mem_of_getElem? (i := 0) rfl) rfl 3 (by decide) mt_592 rfl rfl dX6_save_13 ?_
    refine g_iload_n C dX6_save_16 rfl 1 rfl ?_
    refine g_iconst (v := (1 : Int32)) C dX6_save_17 (by decide) ?_
    obtain ⟨i7, hf⟩ := ix_s hf
    refine g_zast (Y2 := [md E a (V.1, V.2.1, V.2.2.1, (upd V.2.2.2.1 (Int32.toNatClampNeg p0) (vp_nar .boolean (1 : Int32))), V.2.2.2.2.1, V.2.2.2.2.2.1, V.2.2.2.2.2.2.1, V.2.2.2.2.2.2.2.1, V.2.2.2.2.2.2.2.2.1, V.2.2.2.2.2.2.2.2.2.1, V.2.2.2.2.2.2.2.2.2.2.1, V.2.2.2.2.2.2.2.2.2.2.2.1, V.2.2.2.2.2.2.2.2.2.2.2.2.1, V.2.2.2.2.2.2.2.2.2.2.2.2.2)]) C 0 4 rfl rfl i7 dX6_save_18 rfl ?_
    refine g_iconst (v := (0 : Int32)) C dX6_save_19 (by decide) ?_
    refine g_istore_n (lv2 := [(2, .int (0 : Int32)), (0, .ref (a 0)), (1, .int p0)]) C dX6_save_20 rfl (by decide) rfl ?_
    refine g_sub (lv2 := [(0, .ref (a 0)), (1, .int p0), (2, .int (0 : Int32))]) [1, 2, 0] rfl ?_
    exact h21 N ((V.1, V.2.1, V.2.2.1, (upd V.2.2.2.1 (Int32.toNatClampNeg p0) (vp_nar .boolean (1 : Int32))), V.2.2.2.2.1, V.2.2.2.2.2.1, V.2.2.2.2.2.2.1, V.2.2.2.2.2.2.2.1, V.2.2.2.2.2.2.2.2.1, V.2.2.2.2.2.2.2.2.2.1, V.2.2.2.2.2.2.2.2.2.2.1, V.2.2.2.2.2.2.2.2.2.2.2.1, V.2.2.2.2.2.2.2.2.2.2.2.2.1, V.2.2.2.2.2.2.2.2.2.2.2.2.2), (0 : Int32)) hf
  · have hf := (f_if hf).1 c6
    refine g_bipush (v := (-2 : Int32)) C dX6_save_9 (by decide) ?_
    obtain rfl := Option.some.inj hf
    exact g_iret C K dX6_save_11 (Nat.le_of_ble_eq_true rfl) (Nat.le_of_ble_eq_true rfl) ⟨rfl, rfl⟩
def b_X6_restore_30 (N : Nat) (V : Md) (p0 : Int32) (K : (Md × Int32) → Option (Int32 × Md)) (s : Md × Int32) : Option (Int32 × Md) := (if (173 : Int32) ≤ s.2 then some ((s.1.1 (Int32.toNatClampNeg (10 : Int32))), s.1) else (ix ((p0 * (173 : Int32)) + s.2) 346 (ix s.2 173 (K (((upd s.1.1 (Int32.toNatClampNeg s.2) (s.1.2.2.1 (Int32.toNatClampNeg ((p0 * (173 : Int32)) + s.2)))), s.1.2.1, s.1.2.2.1, s.1.2.2.2.1, s.1.2.2.2.2.1, s.1.2.2.2.2.2.1, s.1.2.2.2.2.2.2.1, s.1.2.2.2.2.2.2.2.1, s.1.2.2.2.2.2.2.2.2.1, s.1.2.2.2.2.2.2.2.2.2.1, s.1.2.2.2.2.2.2.2.2.2.2.1, s.1.2.2.2.2.2.2.2.2.2.2.2.1, s.1.2.2.2.2.2.2.2.2.2.2.2.2.1, s.1.2.2.2.2.2.2.2.2.2.2.2.2.2), (s.2 + (1 : Int32)))))))
def f_X6_restore (N : Nat) (V : Md) (p0 : Int32) : Option (Int32 × Md) := ((f_X6_in p0 (0 : Int32) (1 : Int32)).bind fun o4 => (if o4 = 0 then some ((-2 : Int32), V) else (ix p0 2 (if (V.2.2.2.1 (Int32.toNatClampNeg p0)) = 0 then some ((-5 : Int32), V) else ((f_X6_record N V).bind fun o9 => lp (b_X6_restore_30 N V p0) N (o9, (0 : Int32)))))))
abbrev rm_X6_restore : Room := { frames := 1, cells := 0, slots := 0, locals := 22 }
set_option maxRecDepth 100000 in
theorem k_X6_restore : CF yX6_restore cX6_restore 3 (some .int) 1 := ⟨mt_644, mt_645, mt_13, mt_646, ⟨rfl, by decide +kernel, by decide +kernel, by decide +kernel⟩⟩
set_option maxHeartbeats 4000000 in
set_option maxRecDepth 100000 in
theorem c_X6_restore {E : Ev} {a : Nat → Nat} {V : Md} {p0 : Int32} {N : Nat} {o : Int32 × Md} (hf : f_X6_restore N V p0 = some o) : ∀ l, MG l yX6_restore cX6_restore 3 (some .int) rm_X6_restore E [.ref (a 0), .int p0] [md E a V] (fun v Y => v = some (.int o.1) ∧ Y = [md E a o.2]) := by
  refine MG.mk (own := RX6) (lv0 := [(0, .ref (a 0)), (1, .int p0)]) (by decide) rfl (Nat.le_of_ble_eq_true rfl) rfl (fun X C K I => ?_)
  have h30 : ∀ (n : Nat) (s : Md × Int32), lp (b_X6_restore_30 N V p0) n s = some o → G E X 3 [md E a s.1] 0 0 [(0, .ref (a 0)), (1, .int p0), (2, .int s.2)] [] 30 := lp_ind (by
    intro K30 hK30 s hf
    unfold b_X6_restore_30 at hf
    refine g_iload_n C dX6_restore_30 rfl 2 rfl ?_
    refine g_sipush (v := (173 : Int32)) C dX6_restore_31 (by decide) ?_
    refine g_icmp_ge (tgt := 61) C dX6_restore_34 (by decide) (fun c1 => ?_) (fun c1 => ?_)
    · have hf := (f_if hf).1 c1
      refine g_aload_n C dX6_restore_61 rfl 0 rfl ?_
      refine g_get (Cl := RX6) (T := TX6) (N := 14) C mi_X6 0 rfl (List.mem_of_getElem? (i := 0) rfl) rfl 0 (by decide) mt_589 rfl rfl dX6_restore_62 ?_
      refine g_bipush (v := (10 : Int32)) C dX6_restore_65 (by decide) ?_
      refine g_iald C 0 rfl (List.mem_of_getElem? (i := 1) rfl) (by show ¬ (_ ∨ _); decide) dX6_restore_67 ?_
      obtain rfl := Option.some.inj hf
      exact g_iret C K dX6_restore_68 (Nat.le_of_ble_eq_true rfl) (Nat.le_of_ble_eq_true rfl) ⟨rfl, rfl⟩
    · have hf := (f_if hf).2 c1
      refine g_aload_n C dX6_restore_37 rfl 0 rfl ?_
      refine g_get (Cl := RX6) (T := TX6) (N := 14) C mi_X6 0 rfl (List.mem_of_getElem? (i := 0) rfl) rfl 0 (by decide) mt_589 rfl rfl dX6_restore_38 ?_
      refine g_iload_n C dX6_restore_41 rfl 2 rfl ?_
      refine g_aload_n C dX6_restore_42 rfl 0 rfl ?_
      refine g_get (Cl := RX6) (T := TX6) (N := 14) C mi_X6 0 rfl (List.mem_of_getElem? (i := 0) rfl) rfl 2 (by decide) mt_591 rfl rfl dX6_restore_43 ?_
      refine g_iload_n C dX6_restore_46 rfl 1 rfl ?_
      refine g_sipush (v := (173 : Int32)) C dX6_restore_47 (by decide) ?_
      refine g_imul C dX6_restore_50 ?_
      refine g_iload_n C dX6_restore_51 rfl 2 rfl ?_
      refine g_iadd C dX6_restore_52 ?_
      obtain ⟨i2, hf⟩ := ix_s hf
      refine g_iald C 0 rfl (List.mem_of_getElem? (i := 3) rfl) i2 dX6_restore_53 ?_
      obtain ⟨i3, hf⟩ := ix_s hf
      refine g_iast (Y2 := [md E a ((upd s.1.1 (Int32.toNatClampNeg s.2) (s.1.2.2.1 (Int32.toNatClampNeg ((p0 * (173 : Int32)) + s.2)))), s.1.2.1, s.1.2.2.1, s.1.2.2.2.1, s.1.2.2.2.2.1, s.1.2.2.2.2.2.1, s.1.2.2.2.2.2.2.1, s.1.2.2.2.2.2.2.2.1, s.1.2.2.2.2.2.2.2.2.1, s.1.2.2.2.2.2.2.2.2.2.1, s.1.2.2.2.2.2.2.2.2.2.2.1, s.1.2.2.2.2.2.2.2.2.2.2.2.1, s.1.2.2.2.2.2.2.2.2.2.2.2.2.1, s.1.2.2.2.2.2.2.2.2.2.2.2.2.2)]) C 0 1 rfl rfl i3 dX6_restore_54 rfl ?_
      refine g_iinc (v := (s.2 + (1 : Int32))) (lv2 := [(2, .int (s.2 + (1 : Int32))), (0, .ref (a 0)), (1, .int p0)]) C dX6_restore_55 2 rfl (ii (by decide)) (by decide) rfl ?_
      refine g_goto (tgt := 30) C dX6_restore_58 (by decide) ?_
      refine g_sub (lv2 := [(0, .ref (a 0)), (1, .int p0), (2, .int (s.2 + (1 : Int32)))]) [1, 2, 0] rfl ?_
      exact hK30 (((upd s.1.1 (Int32.toNatClampNeg s.2) (s.1.2.2.1 (Int32.toNatClampNeg ((p0 * (173 : Int32)) + s.2)))), s.1.2.1, s.1.2.2.1, s.1.2.2.2.1, s.1.2.2.2.2.1, s.1.2.2.2.2.2.1, s.1.2.2.2.2.2.2.1, s.1.2.2.2.2.2.2.2.1, s.1.2.2.2.2.2.2.2.2.1, s.1.2.2.2.2.2.2.2.2.2.1, s.1.2.2.2.2.2.2.2.2.2.2.1, s.1.2.2.2.2.2.2.2.2.2.2.2.1, s.1.2.2.2.2.2.2.2.2.2.2.2.2.1, s.1.2.2.2.2.2.2.2.2.2.2.2.2.2), (s.2 + (1 : Int32))) hf)
  unfold f_X6_restore at hf
  refine g_iload_n C dX6_restore_0 rfl 1 rfl ?_
  refine g_iconst (v := (0 : Int32)) C dX6_restore_1 (by decide) ?_
  refine g_iconst (v := (1 : Int32)) C dX6_restore_2 (by decide) ?_
  obtain ⟨o4, h5, hf⟩ := bind_s hf
  refine g_callS (As := [.int p0, .int (0 : Int32), .int (1 : Int32)]) (rest := []) C k_X6_in (fun l => c_X6_in (E := E) h5 l) mt_640 [] rfl (by decide) rfl (Nat.le_of_ble_eq_true rfl) ⟨Nat.le_of_ble_eq_true rfl, Nat.le_of_ble_eq_true rfl, Nat.le_of_ble_eq_true rfl, Nat.le_of_ble_eq_true rfl⟩ dX6_restore_3 ?_
  rintro _ _ ⟨rfl, rfl⟩
  show G E X 3 [md E a V] 0 0 [(0, .ref (a 0)), (1, .int p0)] [.int o4] 6
  refine g_if_ne (tgt := 12) C dX6_restore_6 (by decide) (fun c6 => ?_) (fun c6 => ?_)
  · have hf := (f_if hf).2 c6
    refine g_aload_n C dX6_restore_12 rfl 0 rfl ?_
    refine g_get (Cl := RX6) (T := TX6) (N := 14) C mi_X6 0 rfl (List.mem_of_getElem? (i := 0) rfl) rfl 3 (by decide) mt_592 rfl rfl dX6_restore_13 ?_
    refine g_iload_n C dX6_restore_16 rfl 1 rfl ?_
    obtain ⟨i7, hf⟩ := ix_s hf
    refine g_zald C 0 rfl (List.mem_of_getElem? (i := 4) rfl) i7 dX6_restore_17 ?_
    refine g_if_ne (tgt := 24) C dX6_restore_18 (by decide) (fun c8 => ?_) (fun c8 => ?_)
    · have hf := (f_if hf).2 c8
      refine g_aload_n C dX6_restore_24 rfl 0 rfl ?_
      obtain ⟨o9, h10, hf⟩ := bind_s hf
      refine g_callV (As := []) (rest := []) C k_X6_record (fun l => c_X6_record (E := E) (a := a) (V := V) h10 l) mt_647 [0] rfl (by decide) ⟨_, _, _, _, List.mem_flatten.mpr ⟨_, List.mem_of_getElem? (i := 0) rfl, List.mem_of_getElem? (i := 0) rfl⟩, rfl⟩ rfl (Nat.le_of_ble_eq_true rfl) ⟨Nat.le_of_ble_eq_true rfl, Nat.le_of_ble_eq_true rfl, Nat.le_of_ble_eq_true rfl, Nat.le_of_ble_eq_true rfl⟩ dX6_restore_25 ?_
      rintro _ _ ⟨rfl, rfl⟩
      show G E X 3 [md E a o9] 0 0 [(0, .ref (a 0)), (1, .int p0)] [] 28
      refine g_iconst (v := (0 : Int32)) C dX6_restore_28 (by decide) ?_
      refine g_istore_n (lv2 := [(2, .int (0 : Int32)), (0, .ref (a 0)), (1, .int p0)]) C dX6_restore_29 rfl (by decide) rfl ?_
      refine g_sub (lv2 := [(0, .ref (a 0)), (1, .int p0), (2, .int (0 : Int32))]) [1, 2, 0] rfl ?_
      exact h30 N (o9, (0 : Int32)) hf
    · have hf := (f_if hf).1 c8
      refine g_bipush (v := (-5 : Int32)) C dX6_restore_21 (by decide) ?_
      obtain rfl := Option.some.inj hf
      exact g_iret C K dX6_restore_23 (Nat.le_of_ble_eq_true rfl) (Nat.le_of_ble_eq_true rfl) ⟨rfl, rfl⟩
  · have hf := (f_if hf).1 c6
    refine g_bipush (v := (-2 : Int32)) C dX6_restore_9 (by decide) ?_
    obtain rfl := Option.some.inj hf
    exact g_iret C K dX6_restore_11 (Nat.le_of_ble_eq_true rfl) (Nat.le_of_ble_eq_true rfl) ⟨rfl, rfl⟩
