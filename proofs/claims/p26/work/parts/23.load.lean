def setr (V : St) (r : Nat) : St := (V.1, V.2.1, V.2.2.1, V.2.2.2.1, V.2.2.2.2.1, V.2.2.2.2.2.1, r, V.2.2.2.2.2.2.2.1, V.2.2.2.2.2.2.2.2.1, V.2.2.2.2.2.2.2.2.2.1, V.2.2.2.2.2.2.2.2.2.2.1, V.2.2.2.2.2.2.2.2.2.2.2.1, V.2.2.2.2.2.2.2.2.2.2.2.2.1, V.2.2.2.2.2.2.2.2.2.2.2.2.2.1, V.2.2.2.2.2.2.2.2.2.2.2.2.2.2.1, V.2.2.2.2.2.2.2.2.2.2.2.2.2.2.2.1, V.2.2.2.2.2.2.2.2.2.2.2.2.2.2.2.2.1, V.2.2.2.2.2.2.2.2.2.2.2.2.2.2.2.2.2)
def f_X5_load (N : Nat) (Vp : Pd) (Vd : Rd) (Vn : St) (Vh : Hb) (Vk0 : St) (Vk1 : St) (Vk2 : St) (Vk3 : St) (Vk4 : St) (Vk5 : St) : Option (Int32 × Pd × Rd × St × Hb × St × St × St × St × St × St × Option Ru) := ((f_X1_findFault N Vp).bind fun o1 => (if o1 = (-6 : Int32) then ((f_X0_record Vh Vk0 Vk1 Vk2 Vk3 Vk4 Vk5 Vn).bind fun o4 => ((f_X2_read N Vd 60 Vp.1 Vp.2).bind fun o6 => some (o6.2.2.2.2.2.1, (Vp.1, (0 : Int32)), o6.1, (Vn.1, Vn.2.1, Vn.2.2.1, Vn.2.2.2.1, Vn.2.2.2.2.1, Vn.2.2.2.2.2.1, Vn.2.2.2.2.2.2.1, Vn.2.2.2.2.2.2.2.1, Vn.2.2.2.2.2.2.2.2.1, Vn.2.2.2.2.2.2.2.2.2.1, Vn.2.2.2.2.2.2.2.2.2.2.1, Vn.2.2.2.2.2.2.2.2.2.2.2.1, Vn.2.2.2.2.2.2.2.2.2.2.2.2.1, Vn.2.2.2.2.2.2.2.2.2.2.2.2.2.1, Vn.2.2.2.2.2.2.2.2.2.2.2.2.2.2.1, Vn.2.2.2.2.2.2.2.2.2.2.2.2.2.2.2.1, Vn.2.2.2.2.2.2.2.2.2.2.2.2.2.2.2.2.1, Vn.2.2.2.2.2.2.2.2.2.2.2.2.2.2.2.2.2), o4.1, o4.2.1, o4.2.2.1, o4.2.2.2.1, o4.2.2.2.2.1, o4.2.2.2.2.2.1, o4.2.2.2.2.2.2, some o6.2))) else some ((-3 : Int32), Vp, Vd, Vn, Vh, Vk0, Vk1, Vk2, Vk3, Vk4, Vk5, none)))
abbrev rm_X5_load : Room := { frames := 6, cells := 5, slots := 246, locals := 140 }
set_option maxRecDepth 100000 in
theorem k_X5_load : CF yX5_load cX5_load 1 (some .int) 0 := ⟨mt_518, mt_519, mt_1, mt_520, ⟨rfl, by decide +kernel, by decide +kernel, by decide +kernel⟩⟩
set_option maxHeartbeats 4000000 in
set_option maxRecDepth 100000 in
theorem c_X5_load {E : Ev} {ex3 : Nat} {ex5 : Nat} {ex6 : Nat} {ax : Nat → Nat} {ap : Nat → Nat} {Vp : Pd} {ad : Nat → Nat} {Vd : Rd} {an : Nat → Nat} {Vn : St} {ah : Nat → Nat} {Vh : Hb} {ak0 : Nat → Nat} {Vk0 : St} {ak1 : Nat → Nat} {Vk1 : St} {ak2 : Nat → Nat} {Vk2 : St} {ak3 : Nat → Nat} {Vk3 : St} {ak4 : Nat → Nat} {Vk4 : St} {ak5 : Nat → Nat} {Vk5 : St} {N : Nat} {o : Int32 × Pd × Rd × St × Hb × St × St × St × St × St × St × Option Ru} (hf : f_X5_load N Vp Vd Vn Vh Vk0 Vk1 Vk2 Vk3 Vk4 Vk5 = some o) : ∀ l, MG l yX5_load cX5_load 1 (some .int) rm_X5_load E [.ref (ax 0)] [xo E ax (ap 0) (ad 0) (an 0) ex3 (ah 0) ex5 ex6, pd E ap Vp, rd E ad Vd, sc E an Vn, hb E ah (ak0 0) (ak1 0) (ak2 0) (ak3 0) (ak4 0) (ak5 0) Vh, sc E ak0 Vk0, sc E ak1 Vk1, sc E ak2 Vk2, sc E ak3 Vk3, sc E ak4 Vk4, sc E ak5 Vk5] (fun v Y => v = some (.int o.1) ∧ match o.2.2.2.2.2.2.2.2.2.2.2 with | none => Y = [xo E ax (ap 0) (ad 0) (an 0) ex3 (ah 0) ex5 ex6, pd E ap o.2.1, rd E ad o.2.2.1, sc E an o.2.2.2.1, hb E ah (ak0 0) (ak1 0) (ak2 0) (ak3 0) (ak4 0) (ak5 0) o.2.2.2.2.1, sc E ak0 o.2.2.2.2.2.1, sc E ak1 o.2.2.2.2.2.2.1, sc E ak2 o.2.2.2.2.2.2.2.1, sc E ak3 o.2.2.2.2.2.2.2.2.1, sc E ak4 o.2.2.2.2.2.2.2.2.2.1, sc E ak5 o.2.2.2.2.2.2.2.2.2.2.1] | some R => ∃ am : Nat → Nat, Y = [xo E ax (ap 0) (ad 0) (an 0) ex3 (ah 0) ex5 ex6, pd E ap o.2.1, rd E ad o.2.2.1, sc E an (setr o.2.2.2.1 (am 0)), hb E ah (ak0 0) (ak1 0) (ak2 0) (ak3 0) (ak4 0) (ak5 0) o.2.2.2.2.1, sc E ak0 o.2.2.2.2.2.1, sc E ak1 o.2.2.2.2.2.2.1, sc E ak2 o.2.2.2.2.2.2.2.1, sc E ak3 o.2.2.2.2.2.2.2.2.1, sc E ak4 o.2.2.2.2.2.2.2.2.2.1, sc E ak5 o.2.2.2.2.2.2.2.2.2.2.1, ru E (am 0) am R]) := by
  refine MG.mk (own := RX5) (lv0 := [(0, .ref (ax 0))]) (by decide) rfl (Nat.le_of_ble_eq_true rfl) rfl (fun X C K I => ?_)
  unfold f_X5_load at hf
  refine g_aload_n C dX5_load_0 rfl 0 rfl ?_
  refine g_get (Cl := RX5) (T := TX5) (N := 7) C mi_X5 0 rfl (List.mem_of_getElem? (i := 0) rfl) rfl 0 (by decide) mt_297 rfl rfl dX5_load_1 ?_
  obtain ⟨o1, hq2, hf⟩ := bind_s hf
  refine g_callV (As := []) (rest := []) C k_X1_findFault (fun l => c_X1_findFault (E := E) (a := ap) (V := Vp) hq2 l) mt_501 [1] rfl (by decide) ⟨_, _, _, _, List.mem_flatten.mpr ⟨_, List.mem_of_getElem? (i := 1) rfl, List.mem_of_getElem? (i := 0) rfl⟩, rfl⟩ rfl (Nat.le_of_ble_eq_true rfl) ⟨Nat.le_of_ble_eq_true rfl, Nat.le_of_ble_eq_true rfl, Nat.le_of_ble_eq_true rfl, Nat.le_of_ble_eq_true rfl⟩ dX5_load_4 ?_
  rintro _ _ ⟨rfl, rfl⟩
  show G E X 1 [xo E ax (ap 0) (ad 0) (an 0) ex3 (ah 0) ex5 ex6, pd E ap Vp, rd E ad Vd, sc E an Vn, hb E ah (ak0 0) (ak1 0) (ak2 0) (ak3 0) (ak4 0) (ak5 0) Vh, sc E ak0 Vk0, sc E ak1 Vk1, sc E ak2 Vk2, sc E ak3 Vk3, sc E ak4 Vk4, sc E ak5 Vk5] 0 0 [(0, .ref (ax 0))] [.int o1] 7
  refine g_bipush (v := (-6 : Int32)) C dX5_load_7 (by decide) ?_
  refine g_icmp_eq (tgt := 15) C dX5_load_9 (by decide) (fun c3 => ?_) (fun c3 => ?_)
  · have hf := (f_if hf).1 c3
    refine g_aload_n C dX5_load_15 rfl 0 rfl ?_
    refine g_get (Cl := RX5) (T := TX5) (N := 7) C mi_X5 0 rfl (List.mem_of_getElem? (i := 0) rfl) rfl 4 (by decide) mt_301 rfl rfl dX5_load_16 ?_
    refine g_aload_n C dX5_load_19 rfl 0 rfl ?_
    refine g_get (Cl := RX5) (T := TX5) (N := 7) C mi_X5 0 rfl (List.mem_of_getElem? (i := 0) rfl) rfl 2 (by decide) mt_299 rfl rfl dX5_load_20 ?_
    obtain ⟨o4, hq5, hf⟩ := bind_s hf
    refine g_callV (As := [.ref (an 0)]) (rest := []) C k_X0_record (fun l => c_X0_record (E := E) (ah := ah) (Vh := Vh) (ak0 := ak0) (Vk0 := Vk0) (ak1 := ak1) (Vk1 := Vk1) (ak2 := ak2) (Vk2 := Vk2) (ak3 := ak3) (Vk3 := Vk3) (ak4 := ak4) (Vk4 := Vk4) (ak5 := ak5) (Vk5 := Vk5) (aw := an) (Vw := Vn) hq5 l) mt_327 [4, 5, 6, 7, 8, 9, 10, 3] rfl (by decide) ⟨_, _, _, _, List.mem_flatten.mpr ⟨_, List.mem_of_getElem? (i := 4) rfl, List.mem_of_getElem? (i := 0) rfl⟩, rfl⟩ rfl (Nat.le_of_ble_eq_true rfl) ⟨Nat.le_of_ble_eq_true rfl, Nat.le_of_ble_eq_true rfl, Nat.le_of_ble_eq_true rfl, Nat.le_of_ble_eq_true rfl⟩ dX5_load_23 ?_
    rintro _ _ ⟨rfl, rfl⟩
    show G E X 1 [xo E ax (ap 0) (ad 0) (an 0) ex3 (ah 0) ex5 ex6, pd E ap Vp, rd E ad Vd, sc E an Vn, hb E ah (ak0 0) (ak1 0) (ak2 0) (ak3 0) (ak4 0) (ak5 0) o4.1, sc E ak0 o4.2.1, sc E ak1 o4.2.2.1, sc E ak2 o4.2.2.2.1, sc E ak3 o4.2.2.2.2.1, sc E ak4 o4.2.2.2.2.2.1, sc E ak5 o4.2.2.2.2.2.2] 0 0 [(0, .ref (ax 0))] [] 26
    refine g_aload_n C dX5_load_26 rfl 0 rfl ?_
    refine g_get (Cl := RX5) (T := TX5) (N := 7) C mi_X5 0 rfl (List.mem_of_getElem? (i := 0) rfl) rfl 2 (by decide) mt_299 rfl rfl dX5_load_27 ?_
    refine g_aload_n C dX5_load_30 rfl 0 rfl ?_
    refine g_get (Cl := RX5) (T := TX5) (N := 7) C mi_X5 0 rfl (List.mem_of_getElem? (i := 0) rfl) rfl 1 (by decide) mt_298 rfl rfl dX5_load_31 ?_
    refine g_aload_n C dX5_load_34 rfl 0 rfl ?_
    refine g_get (Cl := RX5) (T := TX5) (N := 7) C mi_X5 0 rfl (List.mem_of_getElem? (i := 0) rfl) rfl 0 (by decide) mt_297 rfl rfl dX5_load_35 ?_
    refine g_get (Cl := RX1) (T := TX1) (N := 2) C mi_X1 1 rfl (List.mem_of_getElem? (i := 0) rfl) rfl 0 (by decide) mt_30 rfl rfl dX5_load_38 ?_
    refine g_aload_n C dX5_load_41 rfl 0 rfl ?_
    refine g_get (Cl := RX5) (T := TX5) (N := 7) C mi_X5 0 rfl (List.mem_of_getElem? (i := 0) rfl) rfl 0 (by decide) mt_297 rfl rfl dX5_load_42 ?_
    refine g_get (Cl := RX1) (T := TX1) (N := 2) C mi_X1 1 rfl (List.mem_of_getElem? (i := 0) rfl) rfl 1 (by decide) mt_32 rfl rfl dX5_load_45 ?_
    obtain ⟨o6, hq7, hf⟩ := bind_s hf
    refine g_callV (As := [.ref (ap 1), .int Vp.2]) (rest := [.ref (an 0)]) C k_X2_read (fun l => c_X2_read (E := E) (a := ad) (V := Vd) (gt := (pd E ap Vp)) (tt := (ap 1)) (nt := 60) (Tt := Vp.1) (List.mem_of_getElem? (i := 1) rfl) hq7 l) mt_115 [2, 1] rfl (by decide) ⟨_, _, _, _, List.mem_flatten.mpr ⟨_, List.mem_of_getElem? (i := 2) rfl, List.mem_of_getElem? (i := 0) rfl⟩, rfl⟩ rfl (Nat.le_of_ble_eq_true rfl) ⟨Nat.le_of_ble_eq_true rfl, Nat.le_of_ble_eq_true rfl, Nat.le_of_ble_eq_true rfl, Nat.le_of_ble_eq_true rfl⟩ dX5_load_48 ?_
    rintro _ _ ⟨am8, rfl, rfl⟩
    show G E X 1 [xo E ax (ap 0) (ad 0) (an 0) ex3 (ah 0) ex5 ex6, pd E ap Vp, rd E ad o6.1, sc E an Vn, hb E ah (ak0 0) (ak1 0) (ak2 0) (ak3 0) (ak4 0) (ak5 0) o4.1, sc E ak0 o4.2.1, sc E ak1 o4.2.2.1, sc E ak2 o4.2.2.2.1, sc E ak3 o4.2.2.2.2.1, sc E ak4 o4.2.2.2.2.2.1, sc E ak5 o4.2.2.2.2.2.2, ru E (am8 0) am8 o6.2] 5 246 [(0, .ref (ax 0))] [.ref (am8 0), .ref (an 0)] 51
    refine g_put (Cl := RX4) (T := TX4) (N := 18) (Y2 := [xo E ax (ap 0) (ad 0) (an 0) ex3 (ah 0) ex5 ex6, pd E ap Vp, rd E ad o6.1, sc E an (Vn.1, Vn.2.1, Vn.2.2.1, Vn.2.2.2.1, Vn.2.2.2.2.1, Vn.2.2.2.2.2.1, (am8 0), Vn.2.2.2.2.2.2.2.1, Vn.2.2.2.2.2.2.2.2.1, Vn.2.2.2.2.2.2.2.2.2.1, Vn.2.2.2.2.2.2.2.2.2.2.1, Vn.2.2.2.2.2.2.2.2.2.2.2.1, Vn.2.2.2.2.2.2.2.2.2.2.2.2.1, Vn.2.2.2.2.2.2.2.2.2.2.2.2.2.1, Vn.2.2.2.2.2.2.2.2.2.2.2.2.2.2.1, Vn.2.2.2.2.2.2.2.2.2.2.2.2.2.2.2.1, Vn.2.2.2.2.2.2.2.2.2.2.2.2.2.2.2.2.1, Vn.2.2.2.2.2.2.2.2.2.2.2.2.2.2.2.2.2), hb E ah (ak0 0) (ak1 0) (ak2 0) (ak3 0) (ak4 0) (ak5 0) o4.1, sc E ak0 o4.2.1, sc E ak1 o4.2.2.1, sc E ak2 o4.2.2.2.1, sc E ak3 o4.2.2.2.2.1, sc E ak4 o4.2.2.2.2.2.1, sc E ak5 o4.2.2.2.2.2.2, ru E (am8 0) am8 o6.2]) C mi_X4 tyX4_ok nmX4 3 0 rfl rfl rfl 6 (by decide) mt_223 rfl rfl rfl rfl rfl (Nat.le_of_ble_eq_true rfl) dX5_load_51 rfl ?_
    refine g_aload_n C dX5_load_54 rfl 0 rfl ?_
    refine g_get (Cl := RX5) (T := TX5) (N := 7) C mi_X5 0 rfl (List.mem_of_getElem? (i := 0) rfl) rfl 0 (by decide) mt_297 rfl rfl dX5_load_55 ?_
    refine g_iconst (v := (0 : Int32)) C dX5_load_58 (by decide) ?_
    refine g_put (Cl := RX1) (T := TX1) (N := 2) (Y2 := [xo E ax (ap 0) (ad 0) (an 0) ex3 (ah 0) ex5 ex6, pd E ap (Vp.1, (0 : Int32)), rd E ad o6.1, sc E an (Vn.1, Vn.2.1, Vn.2.2.1, Vn.2.2.2.1, Vn.2.2.2.2.1, Vn.2.2.2.2.2.1, (am8 0), Vn.2.2.2.2.2.2.2.1, Vn.2.2.2.2.2.2.2.2.1, Vn.2.2.2.2.2.2.2.2.2.1, Vn.2.2.2.2.2.2.2.2.2.2.1, Vn.2.2.2.2.2.2.2.2.2.2.2.1, Vn.2.2.2.2.2.2.2.2.2.2.2.2.1, Vn.2.2.2.2.2.2.2.2.2.2.2.2.2.1, Vn.2.2.2.2.2.2.2.2.2.2.2.2.2.2.1, Vn.2.2.2.2.2.2.2.2.2.2.2.2.2.2.2.1, Vn.2.2.2.2.2.2.2.2.2.2.2.2.2.2.2.2.1, Vn.2.2.2.2.2.2.2.2.2.2.2.2.2.2.2.2.2), hb E ah (ak0 0) (ak1 0) (ak2 0) (ak3 0) (ak4 0) (ak5 0) o4.1, sc E ak0 o4.2.1, sc E ak1 o4.2.2.1, sc E ak2 o4.2.2.2.1, sc E ak3 o4.2.2.2.2.1, sc E ak4 o4.2.2.2.2.2.1, sc E ak5 o4.2.2.2.2.2.2, ru E (am8 0) am8 o6.2]) C mi_X1 tyX1_ok nmX1 1 0 rfl rfl rfl 1 (by decide) mt_32 rfl rfl rfl rfl rfl (Nat.le_of_ble_eq_true rfl) dX5_load_59 rfl ?_
    refine g_aload_n C dX5_load_62 rfl 0 rfl ?_
    refine g_get (Cl := RX5) (T := TX5) (N := 7) C mi_X5 0 rfl (List.mem_of_getElem? (i := 0) rfl) rfl 2 (by decide) mt_299 rfl rfl dX5_load_63 ?_
    refine g_get (Cl := RX4) (T := TX4) (N := 18) C mi_X4 3 rfl (List.mem_of_getElem? (i := 0) rfl) rfl 6 (by decide) mt_223 rfl rfl dX5_load_66 ?_
    refine g_get (Cl := RX3) (T := TX3) (N := 6) C mi_X3 11 rfl (List.mem_of_getElem? (i := 0) rfl) rfl 4 (by decide) mt_130 rfl rfl dX5_load_69 ?_
    obtain rfl := Option.some.inj hf
    exact g_iret C K dX5_load_72 (Nat.le_of_ble_eq_true rfl) (Nat.le_of_ble_eq_true rfl) ⟨rfl, am8, rfl⟩
  · have hf := (f_if hf).2 c3
    refine g_bipush (v := (-3 : Int32)) C dX5_load_12 (by decide) ?_
    obtain rfl := Option.some.inj hf
    exact g_iret C K dX5_load_14 (Nat.le_of_ble_eq_true rfl) (Nat.le_of_ble_eq_true rfl) ⟨rfl, rfl⟩
