def b_X5_set_31 (Vn : St) (Vh : Hb) (Vk0 : St) (Vk1 : St) (Vk2 : St) (Vk3 : St) (Vk4 : St) (Vk5 : St) (p0 : Int32) (p1 : Int32) (s : Unit) : Option (Int32 × St × Hb × St × St × St × St × St × St) := some ((-2 : Int32), Vn, Vh, Vk0, Vk1, Vk2, Vk3, Vk4, Vk5)
def b_X5_set_10 (Vn : St) (Vh : Hb) (Vk0 : St) (Vk1 : St) (Vk2 : St) (Vk3 : St) (Vk4 : St) (Vk5 : St) (p0 : Int32) (p1 : Int32) (s : Unit) : Option (Int32 × St × Hb × St × St × St × St × St × St) := some ((-2 : Int32), Vn, Vh, Vk0, Vk1, Vk2, Vk3, Vk4, Vk5)
def f_X5_set (Vn : St) (Vh : Hb) (Vk0 : St) (Vk1 : St) (Vk2 : St) (Vk3 : St) (Vk4 : St) (Vk5 : St) (p0 : Int32) (p1 : Int32) : Option (Int32 × St × Hb × St × St × St × St × St × St) := (if p0 < 0 then b_X5_set_10 Vn Vh Vk0 Vk1 Vk2 Vk3 Vk4 Vk5 p0 p1 () else (if p0 < (7 : Int32) then (ix p0 7 (if p1 < (lstL.getD (Int32.toNatClampNeg p0) 0) then b_X5_set_31 Vn Vh Vk0 Vk1 Vk2 Vk3 Vk4 Vk5 p0 p1 () else (ix p0 7 (if p1 ≤ (lstG.getD (Int32.toNatClampNeg p0) 0) then ((f_X0_record Vh Vk0 Vk1 Vk2 Vk3 Vk4 Vk5 Vn).bind fun o7 => (ix p0 7 (ix p0 7 (some ((Vn.1 (Int32.toNatClampNeg p0)), ((upd Vn.1 (Int32.toNatClampNeg p0) p1), Vn.2.1, Vn.2.2.1, Vn.2.2.2.1, Vn.2.2.2.2.1, Vn.2.2.2.2.2.1, Vn.2.2.2.2.2.2.1, Vn.2.2.2.2.2.2.2.1, Vn.2.2.2.2.2.2.2.2.1, Vn.2.2.2.2.2.2.2.2.2.1, Vn.2.2.2.2.2.2.2.2.2.2.1, Vn.2.2.2.2.2.2.2.2.2.2.2.1, Vn.2.2.2.2.2.2.2.2.2.2.2.2.1, Vn.2.2.2.2.2.2.2.2.2.2.2.2.2.1, Vn.2.2.2.2.2.2.2.2.2.2.2.2.2.2.1, Vn.2.2.2.2.2.2.2.2.2.2.2.2.2.2.2.1, Vn.2.2.2.2.2.2.2.2.2.2.2.2.2.2.2.2.1, Vn.2.2.2.2.2.2.2.2.2.2.2.2.2.2.2.2.2), o7.1, o7.2.1, o7.2.2.1, o7.2.2.2.1, o7.2.2.2.2.1, o7.2.2.2.2.2.1, o7.2.2.2.2.2.2))))) else b_X5_set_31 Vn Vh Vk0 Vk1 Vk2 Vk3 Vk4 Vk5 p0 p1 ())))) else b_X5_set_10 Vn Vh Vk0 Vk1 Vk2 Vk3 Vk4 Vk5 p0 p1 ()))
abbrev rm_X5_set : Room := { frames := 3, cells := 0, slots := 0, locals := 62 }
set_option maxRecDepth 100000 in
theorem k_X5_set : CF yX5_set cX5_set 4 (some .int) 2 := ⟨mt_320, mt_321, mt_1, mt_322, ⟨rfl, by decide +kernel, by decide +kernel, by decide +kernel⟩⟩
set_option maxHeartbeats 4000000 in
set_option maxRecDepth 100000 in
theorem c_X5_set {E : Ev} {ex0 : Nat} {ex1 : Nat} {ex3 : Nat} {ex5 : Nat} {ex6 : Nat} {ax : Nat → Nat} {an : Nat → Nat} {Vn : St} {ah : Nat → Nat} {Vh : Hb} {ak0 : Nat → Nat} {Vk0 : St} {ak1 : Nat → Nat} {Vk1 : St} {ak2 : Nat → Nat} {Vk2 : St} {ak3 : Nat → Nat} {Vk3 : St} {ak4 : Nat → Nat} {Vk4 : St} {ak5 : Nat → Nat} {Vk5 : St} {p0 : Int32} {p1 : Int32} {o : Int32 × St × Hb × St × St × St × St × St × St} (hf : f_X5_set Vn Vh Vk0 Vk1 Vk2 Vk3 Vk4 Vk5 p0 p1 = some o) : ∀ l, MG l yX5_set cX5_set 4 (some .int) rm_X5_set E [.ref (ax 0), .int p0, .int p1] [xo E ax ex0 ex1 (an 0) ex3 (ah 0) ex5 ex6, sc E an Vn, hb E ah (ak0 0) (ak1 0) (ak2 0) (ak3 0) (ak4 0) (ak5 0) Vh, sc E ak0 Vk0, sc E ak1 Vk1, sc E ak2 Vk2, sc E ak3 Vk3, sc E ak4 Vk4, sc E ak5 Vk5] (fun v Y => v = some (.int o.1) ∧ Y = [xo E ax ex0 ex1 (an 0) ex3 (ah 0) ex5 ex6, sc E an o.2.1, hb E ah (ak0 0) (ak1 0) (ak2 0) (ak3 0) (ak4 0) (ak5 0) o.2.2.1, sc E ak0 o.2.2.2.1, sc E ak1 o.2.2.2.2.1, sc E ak2 o.2.2.2.2.2.1, sc E ak3 o.2.2.2.2.2.2.1, sc E ak4 o.2.2.2.2.2.2.2.1, sc E ak5 o.2.2.2.2.2.2.2.2]) := by
  refine MG.mk (own := RX5) (lv0 := [(0, .ref (ax 0)), (1, .int p0), (2, .int p1)]) (by decide) rfl (Nat.le_of_ble_eq_true rfl) rfl (fun X C K I => ?_)
  have h31 : ∀ s : Unit, b_X5_set_31 Vn Vh Vk0 Vk1 Vk2 Vk3 Vk4 Vk5 p0 p1 s = some o → G E X 4 [xo E ax ex0 ex1 (an 0) ex3 (ah 0) ex5 ex6, sc E an Vn, hb E ah (ak0 0) (ak1 0) (ak2 0) (ak3 0) (ak4 0) (ak5 0) Vh, sc E ak0 Vk0, sc E ak1 Vk1, sc E ak2 Vk2, sc E ak3 Vk3, sc E ak4 Vk4, sc E ak5 Vk5] 0 0 [] [] 31 := by
    intro s hf
    unfold b_X5_set_31 at hf
    refine g_bipush (v := (-2 : Int32)) C dX5_set_31 (by decide) ?_
    obtain rfl := Option.some.inj hf
    exact g_iret C K dX5_set_33 (Nat.le_of_ble_eq_true rfl) (Nat.le_of_ble_eq_true rfl) ⟨rfl, rfl⟩
  have h10 : ∀ s : Unit, b_X5_set_10 Vn Vh Vk0 Vk1 Vk2 Vk3 Vk4 Vk5 p0 p1 s = some o → G E X 4 [xo E ax ex0 ex1 (an 0) ex3 (ah 0) ex5 ex6, sc E an Vn, hb E ah (ak0 0) (ak1 0) (ak2 0) (ak3 0) (ak4 0) (ak5 0) Vh, sc E ak0 Vk0, sc E ak1 Vk1, sc E ak2 Vk2, sc E ak3 Vk3, sc E ak4 Vk4, sc E ak5 Vk5] 0 0 [] [] 10 := by
    intro s hf
    unfold b_X5_set_10 at hf
    refine g_bipush (v := (-2 : Int32)) C dX5_set_10 (by decide) ?_
    obtain rfl := Option.some.inj hf
    exact g_iret C K dX5_set_12 (Nat.le_of_ble_eq_true rfl) (Nat.le_of_ble_eq_true rfl) ⟨rfl, rfl⟩
  unfold f_X5_set at hf
  refine g_iload_n C dX5_set_0 rfl 1 rfl ?_
  refine g_if_lt (tgt := 10) C dX5_set_1 (by decide) (fun c1 => ?_) (fun c1 => ?_)
  · have hf := (f_if hf).1 c1
    refine g_sub (lv2 := []) [] rfl ?_
    exact h10 () hf
  · have hf := (f_if hf).2 c1
    refine g_iload_n C dX5_set_4 rfl 1 rfl ?_
    refine g_bipush (v := (7 : Int32)) C dX5_set_5 (by decide) ?_
    refine g_icmp_lt (tgt := 13) C dX5_set_7 (by decide) (fun c2 => ?_) (fun c2 => ?_)
    · have hf := (f_if hf).1 c2
      refine g_iload_n C dX5_set_13 rfl 2 rfl ?_
      refine g_gets C (fun _ _ _ h => h.1.1) mt_323 rfl dX5_set_14 ?_
      refine g_iload_n C dX5_set_17 rfl 1 rfl ?_
      obtain ⟨i3, hf⟩ := ix_s hf
      refine g_ti (f := fun j => lstL.getD j 0) C (fun _ _ _ h => h.1.2) i3 dX5_set_18 ?_
      refine g_icmp_lt (tgt := 31) C dX5_set_19 (by decide) (fun c4 => ?_) (fun c4 => ?_)
      · have hf := (f_if hf).1 c4
        refine g_sub (lv2 := []) [] rfl ?_
        exact h31 () hf
      · have hf := (f_if hf).2 c4
        refine g_iload_n C dX5_set_22 rfl 2 rfl ?_
        refine g_gets C (fun _ _ _ h => h.2.1.1) mt_325 rfl dX5_set_23 ?_
        refine g_iload_n C dX5_set_26 rfl 1 rfl ?_
        obtain ⟨i5, hf⟩ := ix_s hf
        refine g_ti (f := fun j => lstG.getD j 0) C (fun _ _ _ h => h.2.1.2) i5 dX5_set_27 ?_
        refine g_icmp_le (tgt := 34) C dX5_set_28 (by decide) (fun c6 => ?_) (fun c6 => ?_)
        · have hf := (f_if hf).1 c6
          refine g_aload_n C dX5_set_34 rfl 0 rfl ?_
          refine g_get (Cl := RX5) (T := TX5) (N := 7) C mi_X5 0 rfl (List.mem_of_getElem? (i := 0) rfl) rfl 4 (by decide) mt_301 rfl rfl dX5_set_35 ?_
          refine g_aload_n C dX5_set_38 rfl 0 rfl ?_
          refine g_get (Cl := RX5) (T := TX5) (N := 7) C mi_X5 0 rfl (List.mem_of_getElem? (i := 0) rfl) rfl 2 (by decide) mt_299 rfl rfl dX5_set_39 ?_
          obtain ⟨o7, hq8, hf⟩ := bind_s hf
          refine g_callV (As := [.ref (an 0)]) (rest := []) C k_X0_record (fun l => c_X0_record (E := E) (ah := ah) (Vh := Vh) (ak0 := ak0) (Vk0 := Vk0) (ak1 := ak1) (Vk1 := Vk1) (ak2 := ak2) (Vk2 := Vk2) (ak3 := ak3) (Vk3 := Vk3) (ak4 := ak4) (Vk4 := Vk4) (ak5 := ak5) (Vk5 := Vk5) (aw := an) (Vw := Vn) hq8 l) mt_327 [2, 3, 4, 5, 6, 7, 8, 1] rfl (by decide) ⟨_, _, _, _, List.mem_flatten.mpr ⟨_, List.mem_of_getElem? (i := 2) rfl, List.mem_of_getElem? (i := 0) rfl⟩, rfl⟩ rfl (Nat.le_of_ble_eq_true rfl) ⟨Nat.le_of_ble_eq_true rfl, Nat.le_of_ble_eq_true rfl, Nat.le_of_ble_eq_true rfl, Nat.le_of_ble_eq_true rfl⟩ dX5_set_42 ?_
          rintro _ _ ⟨rfl, rfl⟩
          show G E X 4 [xo E ax ex0 ex1 (an 0) ex3 (ah 0) ex5 ex6, sc E an Vn, hb E ah (ak0 0) (ak1 0) (ak2 0) (ak3 0) (ak4 0) (ak5 0) o7.1, sc E ak0 o7.2.1, sc E ak1 o7.2.2.1, sc E ak2 o7.2.2.2.1, sc E ak3 o7.2.2.2.2.1, sc E ak4 o7.2.2.2.2.2.1, sc E ak5 o7.2.2.2.2.2.2] 0 0 [(0, .ref (ax 0)), (1, .int p0), (2, .int p1)] [] 45
          refine g_aload_n C dX5_set_45 rfl 0 rfl ?_
          refine g_get (Cl := RX5) (T := TX5) (N := 7) C mi_X5 0 rfl (List.mem_of_getElem? (i := 0) rfl) rfl 2 (by decide) mt_299 rfl rfl dX5_set_46 ?_
          refine g_get (Cl := RX4) (T := TX4) (N := 18) C mi_X4 1 rfl (List.mem_of_getElem? (i := 0) rfl) rfl 0 (by decide) mt_211 rfl rfl dX5_set_49 ?_
          refine g_iload_n C dX5_set_52 rfl 1 rfl ?_
          obtain ⟨i9, hf⟩ := ix_s hf
          refine g_iald C 1 rfl (List.mem_of_getElem? (i := 1) rfl) i9 dX5_set_53 ?_
          refine g_istore_n (lv2 := [(3, .int (Vn.1 (Int32.toNatClampNeg p0))), (0, .ref (ax 0)), (1, .int p0), (2, .int p1)]) C dX5_set_54 rfl (by decide) rfl ?_
          refine g_aload_n C dX5_set_55 rfl 1 rfl ?_
          refine g_get (Cl := RX5) (T := TX5) (N := 7) C mi_X5 0 rfl (List.mem_of_getElem? (i := 0) rfl) rfl 2 (by decide) mt_299 rfl rfl dX5_set_56 ?_
          refine g_get (Cl := RX4) (T := TX4) (N := 18) C mi_X4 1 rfl (List.mem_of_getElem? (i := 0) rfl) rfl 0 (by decide) mt_211 rfl rfl dX5_set_59 ?_
          refine g_iload_n C dX5_set_62 rfl 2 rfl ?_
          refine g_iload_n C dX5_set_63 rfl 3 rfl ?_
          obtain ⟨i10, hf⟩ := ix_s hf
          refine g_iast (Y2 := [xo E ax ex0 ex1 (an 0) ex3 (ah 0) ex5 ex6, sc E an ((upd Vn.1 (Int32.toNatClampNeg p0) p1), Vn.2.1, Vn.2.2.1, Vn.2.2.2.1, Vn.2.2.2.2.1, Vn.2.2.2.2.2.1, Vn.2.2.2.2.2.2.1, Vn.2.2.2.2.2.2.2.1, Vn.2.2.2.2.2.2.2.2.1, Vn.2.2.2.2.2.2.2.2.2.1, Vn.2.2.2.2.2.2.2.2.2.2.1, Vn.2.2.2.2.2.2.2.2.2.2.2.1, Vn.2.2.2.2.2.2.2.2.2.2.2.2.1, Vn.2.2.2.2.2.2.2.2.2.2.2.2.2.1, Vn.2.2.2.2.2.2.2.2.2.2.2.2.2.2.1, Vn.2.2.2.2.2.2.2.2.2.2.2.2.2.2.2.1, Vn.2.2.2.2.2.2.2.2.2.2.2.2.2.2.2.2.1, Vn.2.2.2.2.2.2.2.2.2.2.2.2.2.2.2.2.2), hb E ah (ak0 0) (ak1 0) (ak2 0) (ak3 0) (ak4 0) (ak5 0) o7.1, sc E ak0 o7.2.1, sc E ak1 o7.2.2.1, sc E ak2 o7.2.2.2.1, sc E ak3 o7.2.2.2.2.1, sc E ak4 o7.2.2.2.2.2.1, sc E ak5 o7.2.2.2.2.2.2]) C 1 1 rfl rfl i10 dX5_set_64 rfl ?_
          refine g_iload_n C dX5_set_65 rfl 0 rfl ?_
          obtain rfl := Option.some.inj hf
          exact g_iret C K dX5_set_66 (Nat.le_of_ble_eq_true rfl) (Nat.le_of_ble_eq_true rfl) ⟨rfl, rfl⟩
        · have hf := (f_if hf).2 c6
          refine g_sub (lv2 := []) [] rfl ?_
          exact h31 () hf
    · have hf := (f_if hf).2 c2
      refine g_sub (lv2 := []) [] rfl ?_
      exact h10 () hf
def b_X5_come_12 (Vn : St) (Vh : Hb) (Vk0 : St) (Vk1 : St) (Vk2 : St) (Vk3 : St) (Vk4 : St) (Vk5 : St) (p0 : Int32) (s : Unit) : Option (Int32 × St × Hb × St × St × St × St × St × St) := some ((-2 : Int32), Vn, Vh, Vk0, Vk1, Vk2, Vk3, Vk4, Vk5)
def f_X5_come (Vn : St) (Vh : Hb) (Vk0 : St) (Vk1 : St) (Vk2 : St) (Vk3 : St) (Vk4 : St) (Vk5 : St) (p0 : Int32) : Option (Int32 × St × Hb × St × St × St × St × St × St) := (if p0 < (1 : Int32) then b_X5_come_12 Vn Vh Vk0 Vk1 Vk2 Vk3 Vk4 Vk5 p0 () else (if p0 ≤ (200 : Int32) then (if Vn.2.2.2.2.2.2.2.1 < (20 : Int32) then (if Vn.2.2.2.2.2.2.2.2.2.1 = 0 then ((f_X0_record Vh Vk0 Vk1 Vk2 Vk3 Vk4 Vk5 Vn).bind fun o5 => ((f_X4_stepOn Vn p0).bind fun o7 => some (o7.2.2.2.2.2.2.2.1, o7, o5.1, o5.2.1, o5.2.2.1, o5.2.2.2.1, o5.2.2.2.2.1, o5.2.2.2.2.2.1, o5.2.2.2.2.2.2))) else some ((-5 : Int32), Vn, Vh, Vk0, Vk1, Vk2, Vk3, Vk4, Vk5)) else some ((-4 : Int32), Vn, Vh, Vk0, Vk1, Vk2, Vk3, Vk4, Vk5)) else b_X5_come_12 Vn Vh Vk0 Vk1 Vk2 Vk3 Vk4 Vk5 p0 ()))
abbrev rm_X5_come : Room := { frames := 3, cells := 0, slots := 0, locals := 62 }
set_option maxRecDepth 100000 in
theorem k_X5_come : CF yX5_come cX5_come 2 (some .int) 1 := ⟨mt_339, mt_340, mt_1, mt_341, ⟨rfl, by decide +kernel, by decide +kernel, by decide +kernel⟩⟩
set_option maxHeartbeats 4000000 in
set_option maxRecDepth 100000 in
theorem c_X5_come {E : Ev} {ex0 : Nat} {ex1 : Nat} {ex3 : Nat} {ex5 : Nat} {ex6 : Nat} {ax : Nat → Nat} {an : Nat → Nat} {Vn : St} {ah : Nat → Nat} {Vh : Hb} {ak0 : Nat → Nat} {Vk0 : St} {ak1 : Nat → Nat} {Vk1 : St} {ak2 : Nat → Nat} {Vk2 : St} {ak3 : Nat → Nat} {Vk3 : St} {ak4 : Nat → Nat} {Vk4 : St} {ak5 : Nat → Nat} {Vk5 : St} {p0 : Int32} {o : Int32 × St × Hb × St × St × St × St × St × St} (hf : f_X5_come Vn Vh Vk0 Vk1 Vk2 Vk3 Vk4 Vk5 p0 = some o) : ∀ l, MG l yX5_come cX5_come 2 (some .int) rm_X5_come E [.ref (ax 0), .int p0] [xo E ax ex0 ex1 (an 0) ex3 (ah 0) ex5 ex6, sc E an Vn, hb E ah (ak0 0) (ak1 0) (ak2 0) (ak3 0) (ak4 0) (ak5 0) Vh, sc E ak0 Vk0, sc E ak1 Vk1, sc E ak2 Vk2, sc E ak3 Vk3, sc E ak4 Vk4, sc E ak5 Vk5] (fun v Y => v = some (.int o.1) ∧ Y = [xo E ax ex0 ex1 (an 0) ex3 (ah 0) ex5 ex6, sc E an o.2.1, hb E ah (ak0 0) (ak1 0) (ak2 0) (ak3 0) (ak4 0) (ak5 0) o.2.2.1, sc E ak0 o.2.2.2.1, sc E ak1 o.2.2.2.2.1, sc E ak2 o.2.2.2.2.2.1, sc E ak3 o.2.2.2.2.2.2.1, sc E ak4 o.2.2.2.2.2.2.2.1, sc E ak5 o.2.2.2.2.2.2.2.2]) := by
  refine MG.mk (own := RX5) (lv0 := [(0, .ref (ax 0)), (1, .int p0)]) (by decide) rfl (Nat.le_of_ble_eq_true rfl) rfl (fun X C K I => ?_)
  have h12 : ∀ s : Unit, b_X5_come_12 Vn Vh Vk0 Vk1 Vk2 Vk3 Vk4 Vk5 p0 s = some o → G E X 2 [xo E ax ex0 ex1 (an 0) ex3 (ah 0) ex5 ex6, sc E an Vn, hb E ah (ak0 0) (ak1 0) (ak2 0) (ak3 0) (ak4 0) (ak5 0) Vh, sc E ak0 Vk0, sc E ak1 Vk1, sc E ak2 Vk2, sc E ak3 Vk3, sc E ak4 Vk4, sc E ak5 Vk5] 0 0 [] [] 12 := by
    intro s hf
    unfold b_X5_come_12 at hf
    refine g_bipush (v := (-2 : Int32)) C dX5_come_12 (by decide) ?_
    obtain rfl := Option.some.inj hf
    exact g_iret C K dX5_come_14 (Nat.le_of_ble_eq_true rfl) (Nat.le_of_ble_eq_true rfl) ⟨rfl, rfl⟩
  unfold f_X5_come at hf
  refine g_iload_n C dX5_come_0 rfl 1 rfl ?_
  refine g_iconst (v := (1 : Int32)) C dX5_come_1 (by decide) ?_
  refine g_icmp_lt (tgt := 12) C dX5_come_2 (by decide) (fun c1 => ?_) (fun c1 => ?_)
  · have hf := (f_if hf).1 c1
    refine g_sub (lv2 := []) [] rfl ?_
    exact h12 () hf
  · have hf := (f_if hf).2 c1
    refine g_iload_n C dX5_come_5 rfl 1 rfl ?_
    refine g_sipush (v := (200 : Int32)) C dX5_come_6 (by decide) ?_
    refine g_icmp_le (tgt := 15) C dX5_come_9 (by decide) (fun c2 => ?_) (fun c2 => ?_)
    · have hf := (f_if hf).1 c2
      refine g_aload_n C dX5_come_15 rfl 0 rfl ?_
      refine g_get (Cl := RX5) (T := TX5) (N := 7) C mi_X5 0 rfl (List.mem_of_getElem? (i := 0) rfl) rfl 2 (by decide) mt_299 rfl rfl dX5_come_16 ?_
      refine g_get (Cl := RX4) (T := TX4) (N := 18) C mi_X4 1 rfl (List.mem_of_getElem? (i := 0) rfl) rfl 7 (by decide) mt_225 rfl rfl dX5_come_19 ?_
      refine g_bipush (v := (20 : Int32)) C dX5_come_22 (by decide) ?_
      refine g_icmp_lt (tgt := 30) C dX5_come_24 (by decide) (fun c3 => ?_) (fun c3 => ?_)
      · have hf := (f_if hf).1 c3
        refine g_aload_n C dX5_come_30 rfl 0 rfl ?_
        refine g_get (Cl := RX5) (T := TX5) (N := 7) C mi_X5 0 rfl (List.mem_of_getElem? (i := 0) rfl) rfl 2 (by decide) mt_299 rfl rfl dX5_come_31 ?_
        refine g_get (Cl := RX4) (T := TX4) (N := 18) C mi_X4 1 rfl (List.mem_of_getElem? (i := 0) rfl) rfl 9 (by decide) mt_229 rfl rfl dX5_come_34 ?_
        refine g_if_eq (tgt := 43) C dX5_come_37 (by decide) (fun c4 => ?_) (fun c4 => ?_)
        · have hf := (f_if hf).1 c4
          refine g_aload_n C dX5_come_43 rfl 0 rfl ?_
          refine g_get (Cl := RX5) (T := TX5) (N := 7) C mi_X5 0 rfl (List.mem_of_getElem? (i := 0) rfl) rfl 4 (by decide) mt_301 rfl rfl dX5_come_44 ?_
          refine g_aload_n C dX5_come_47 rfl 0 rfl ?_
          refine g_get (Cl := RX5) (T := TX5) (N := 7) C mi_X5 0 rfl (List.mem_of_getElem? (i := 0) rfl) rfl 2 (by decide) mt_299 rfl rfl dX5_come_48 ?_
          obtain ⟨o5, hq6, hf⟩ := bind_s hf
          refine g_callV (As := [.ref (an 0)]) (rest := []) C k_X0_record (fun l => c_X0_record (E := E) (ah := ah) (Vh := Vh) (ak0 := ak0) (Vk0 := Vk0) (ak1 := ak1) (Vk1 := Vk1) (ak2 := ak2) (Vk2 := Vk2) (ak3 := ak3) (Vk3 := Vk3) (ak4 := ak4) (Vk4 := Vk4) (ak5 := ak5) (Vk5 := Vk5) (aw := an) (Vw := Vn) hq6 l) mt_327 [2, 3, 4, 5, 6, 7, 8, 1] rfl (by decide) ⟨_, _, _, _, List.mem_flatten.mpr ⟨_, List.mem_of_getElem? (i := 2) rfl, List.mem_of_getElem? (i := 0) rfl⟩, rfl⟩ rfl (Nat.le_of_ble_eq_true rfl) ⟨Nat.le_of_ble_eq_true rfl, Nat.le_of_ble_eq_true rfl, Nat.le_of_ble_eq_true rfl, Nat.le_of_ble_eq_true rfl⟩ dX5_come_51 ?_
          rintro _ _ ⟨rfl, rfl⟩
          show G E X 2 [xo E ax ex0 ex1 (an 0) ex3 (ah 0) ex5 ex6, sc E an Vn, hb E ah (ak0 0) (ak1 0) (ak2 0) (ak3 0) (ak4 0) (ak5 0) o5.1, sc E ak0 o5.2.1, sc E ak1 o5.2.2.1, sc E ak2 o5.2.2.2.1, sc E ak3 o5.2.2.2.2.1, sc E ak4 o5.2.2.2.2.2.1, sc E ak5 o5.2.2.2.2.2.2] 0 0 [(0, .ref (ax 0)), (1, .int p0)] [] 54
          refine g_aload_n C dX5_come_54 rfl 0 rfl ?_
          refine g_get (Cl := RX5) (T := TX5) (N := 7) C mi_X5 0 rfl (List.mem_of_getElem? (i := 0) rfl) rfl 2 (by decide) mt_299 rfl rfl dX5_come_55 ?_
          refine g_iload_n C dX5_come_58 rfl 1 rfl ?_
          obtain ⟨o7, hq8, hf⟩ := bind_s hf
          refine g_callV (As := [.int p0]) (rest := []) C k_X4_stepOn (fun l => c_X4_stepOn (E := E) (a := an) (V := Vn) hq8 l) mt_342 [1] rfl (by decide) ⟨_, _, _, _, List.mem_flatten.mpr ⟨_, List.mem_of_getElem? (i := 1) rfl, List.mem_of_getElem? (i := 0) rfl⟩, rfl⟩ rfl (Nat.le_of_ble_eq_true rfl) ⟨Nat.le_of_ble_eq_true rfl, Nat.le_of_ble_eq_true rfl, Nat.le_of_ble_eq_true rfl, Nat.le_of_ble_eq_true rfl⟩ dX5_come_59 ?_
          rintro _ _ ⟨rfl, rfl⟩
          show G E X 2 [xo E ax ex0 ex1 (an 0) ex3 (ah 0) ex5 ex6, sc E an o7, hb E ah (ak0 0) (ak1 0) (ak2 0) (ak3 0) (ak4 0) (ak5 0) o5.1, sc E ak0 o5.2.1, sc E ak1 o5.2.2.1, sc E ak2 o5.2.2.2.1, sc E ak3 o5.2.2.2.2.1, sc E ak4 o5.2.2.2.2.2.1, sc E ak5 o5.2.2.2.2.2.2] 0 0 [(0, .ref (ax 0)), (1, .int p0)] [] 62
          refine g_aload_n C dX5_come_62 rfl 0 rfl ?_
          refine g_get (Cl := RX5) (T := TX5) (N := 7) C mi_X5 0 rfl (List.mem_of_getElem? (i := 0) rfl) rfl 2 (by decide) mt_299 rfl rfl dX5_come_63 ?_
          refine g_get (Cl := RX4) (T := TX4) (N := 18) C mi_X4 1 rfl (List.mem_of_getElem? (i := 0) rfl) rfl 7 (by decide) mt_225 rfl rfl dX5_come_66 ?_
          obtain rfl := Option.some.inj hf
          exact g_iret C K dX5_come_69 (Nat.le_of_ble_eq_true rfl) (Nat.le_of_ble_eq_true rfl) ⟨rfl, rfl⟩
        · have hf := (f_if hf).2 c4
          refine g_bipush (v := (-5 : Int32)) C dX5_come_40 (by decide) ?_
          obtain rfl := Option.some.inj hf
          exact g_iret C K dX5_come_42 (Nat.le_of_ble_eq_true rfl) (Nat.le_of_ble_eq_true rfl) ⟨rfl, rfl⟩
      · have hf := (f_if hf).2 c3
        refine g_bipush (v := (-4 : Int32)) C dX5_come_27 (by decide) ?_
        obtain rfl := Option.some.inj hf
        exact g_iret C K dX5_come_29 (Nat.le_of_ble_eq_true rfl) (Nat.le_of_ble_eq_true rfl) ⟨rfl, rfl⟩
    · have hf := (f_if hf).2 c2
      refine g_sub (lv2 := []) [] rfl ?_
      exact h12 () hf
def b_X5_sense_32 (Vn : St) (Vh : Hb) (Vk0 : St) (Vk1 : St) (Vk2 : St) (Vk3 : St) (Vk4 : St) (Vk5 : St) (p0 : Int32) (p1 : Int32) (p2 : Int32) (s : Unit) : Option (Int32 × St × Hb × St × St × St × St × St × St) := ((f_X0_record Vh Vk0 Vk1 Vk2 Vk3 Vk4 Vk5 Vn).bind fun o1 => ((f_X4_complains Vn p0 p1).bind fun o3 => ((f_X4_setComplaint Vn p0 p1 p2).bind fun o5 => some (o3, o5, o1.1, o1.2.1, o1.2.2.1, o1.2.2.2.1, o1.2.2.2.2.1, o1.2.2.2.2.2.1, o1.2.2.2.2.2.2))))
def b_X5_sense_18 (Vn : St) (Vh : Hb) (Vk0 : St) (Vk1 : St) (Vk2 : St) (Vk3 : St) (Vk4 : St) (Vk5 : St) (p0 : Int32) (p1 : Int32) (p2 : Int32) (s : Unit) : Option (Int32 × St × Hb × St × St × St × St × St × St) := some ((-1 : Int32), Vn, Vh, Vk0, Vk1, Vk2, Vk3, Vk4, Vk5)
def f_X5_sense (Vn : St) (Vh : Hb) (Vk0 : St) (Vk1 : St) (Vk2 : St) (Vk3 : St) (Vk4 : St) (Vk5 : St) (p0 : Int32) (p1 : Int32) (p2 : Int32) : Option (Int32 × St × Hb × St × St × St × St × St × St) := (if p0 < 0 then b_X5_sense_18 Vn Vh Vk0 Vk1 Vk2 Vk3 Vk4 Vk5 p0 p1 p2 () else (if (4 : Int32) ≤ p0 then b_X5_sense_18 Vn Vh Vk0 Vk1 Vk2 Vk3 Vk4 Vk5 p0 p1 p2 () else (if p1 < 0 then b_X5_sense_18 Vn Vh Vk0 Vk1 Vk2 Vk3 Vk4 Vk5 p0 p1 p2 () else (if p1 < (2 : Int32) then (if p2 = 0 then b_X5_sense_32 Vn Vh Vk0 Vk1 Vk2 Vk3 Vk4 Vk5 p0 p1 p2 () else (if p2 = (1 : Int32) then b_X5_sense_32 Vn Vh Vk0 Vk1 Vk2 Vk3 Vk4 Vk5 p0 p1 p2 () else some ((-2 : Int32), Vn, Vh, Vk0, Vk1, Vk2, Vk3, Vk4, Vk5))) else b_X5_sense_18 Vn Vh Vk0 Vk1 Vk2 Vk3 Vk4 Vk5 p0 p1 p2 ()))))
abbrev rm_X5_sense : Room := { frames := 3, cells := 0, slots := 0, locals := 62 }
set_option maxRecDepth 100000 in
theorem k_X5_sense : CF yX5_sense cX5_sense 5 (some .int) 3 := ⟨mt_347, mt_348, mt_1, mt_349, ⟨rfl, by decide +kernel, by decide +kernel, by decide +kernel⟩⟩
set_option maxHeartbeats 4000000 in
set_option maxRecDepth 100000 in
theorem c_X5_sense {E : Ev} {ex0 : Nat} {ex1 : Nat} {ex3 : Nat} {ex5 : Nat} {ex6 : Nat} {ax : Nat → Nat} {an : Nat → Nat} {Vn : St} {ah : Nat → Nat} {Vh : Hb} {ak0 : Nat → Nat} {Vk0 : St} {ak1 : Nat → Nat} {Vk1 : St} {ak2 : Nat → Nat} {Vk2 : St} {ak3 : Nat → Nat} {Vk3 : St} {ak4 : Nat → Nat} {Vk4 : St} {ak5 : Nat → Nat} {Vk5 : St} {p0 : Int32} {p1 : Int32} {p2 : Int32} {o : Int32 × St × Hb × St × St × St × St × St × St} (hf : f_X5_sense Vn Vh Vk0 Vk1 Vk2 Vk3 Vk4 Vk5 p0 p1 p2 = some o) : ∀ l, MG l yX5_sense cX5_sense 5 (some .int) rm_X5_sense E [.ref (ax 0), .int p0, .int p1, .int p2] [xo E ax ex0 ex1 (an 0) ex3 (ah 0) ex5 ex6, sc E an Vn, hb E ah (ak0 0) (ak1 0) (ak2 0) (ak3 0) (ak4 0) (ak5 0) Vh, sc E ak0 Vk0, sc E ak1 Vk1, sc E ak2 Vk2, sc E ak3 Vk3, sc E ak4 Vk4, sc E ak5 Vk5] (fun v Y => v = some (.int o.1) ∧ Y = [xo E ax ex0 ex1 (an 0) ex3 (ah 0) ex5 ex6, sc E an o.2.1, hb E ah (ak0 0) (ak1 0) (ak2 0) (ak3 0) (ak4 0) (ak5 0) o.2.2.1, sc E ak0 o.2.2.2.1, sc E ak1 o.2.2.2.2.1, sc E ak2 o.2.2.2.2.2.1, sc E ak3 o.2.2.2.2.2.2.1, sc E ak4 o.2.2.2.2.2.2.2.1, sc E ak5 o.2.2.2.2.2.2.2.2]) := by
  refine MG.mk (own := RX5) (lv0 := [(0, .ref (ax 0)), (1, .int p0), (2, .int p1), (3, .int p2)]) (by decide) rfl (Nat.le_of_ble_eq_true rfl) rfl (fun X C K I => ?_)
  have h32 : ∀ s : Unit, b_X5_sense_32 Vn Vh Vk0 Vk1 Vk2 Vk3 Vk4 Vk5 p0 p1 p2 s = some o → G E X 5 [xo E ax ex0 ex1 (an 0) ex3 (ah 0) ex5 ex6, sc E an Vn, hb E ah (ak0 0) (ak1 0) (ak2 0) (ak3 0) (ak4 0) (ak5 0) Vh, sc E ak0 Vk0, sc E ak1 Vk1, sc E ak2 Vk2, sc E ak3 Vk3, sc E ak4 Vk4, sc E ak5 Vk5] 0 0 [(0, .ref (ax 0)), (1, .int p0), (2, .int p1), (3, .int p2)] [] 32 := by
    intro s hf
    unfold b_X5_sense_32 at hf
    refine g_aload_n C dX5_sense_32 rfl 0 rfl ?_
    refine g_get (Cl := RX5) (T := TX5) (N := 7) C mi_X5 0 rfl (List.mem_of_getElem? (i := 0) rfl) rfl 4 (by decide) mt_301 rfl rfl dX5_sense_33 ?_
    refine g_aload_n C dX5_sense_36 rfl 0 rfl ?_
    refine g_get (Cl := RX5) (T := TX5) (N := 7) C mi_X5 0 rfl (List.mem_of_getElem? (i := 0) rfl) rfl 2 (by decide) mt_299 rfl rfl dX5_sense_37 ?_
    obtain ⟨o1, hq2, hf⟩ := bind_s hf
    refine g_callV (As := [.ref (an 0)]) (rest := []) C k_X0_record (fun l => c_X0_record (E := E) (ah := ah) (Vh := Vh) (ak0 := ak0) (Vk0 := Vk0) (ak1 := ak1) (Vk1 := Vk1) (ak2 := ak2) (Vk2 := Vk2) (ak3 := ak3) (Vk3 := Vk3) (ak4 := ak4) (Vk4 := Vk4) (ak5 := ak5) (Vk5 := Vk5) (aw := an) (Vw := Vn) hq2 l) mt_327 [2, 3, 4, 5, 6, 7, 8, 1] rfl (by decide) ⟨_, _, _, _, List.mem_flatten.mpr ⟨_, List.mem_of_getElem? (i := 2) rfl, List.mem_of_getElem? (i := 0) rfl⟩, rfl⟩ rfl (Nat.le_of_ble_eq_true rfl) ⟨Nat.le_of_ble_eq_true rfl, Nat.le_of_ble_eq_true rfl, Nat.le_of_ble_eq_true rfl, Nat.le_of_ble_eq_true rfl⟩ dX5_sense_40 ?_
    rintro _ _ ⟨rfl, rfl⟩
    show G E X 5 [xo E ax ex0 ex1 (an 0) ex3 (ah 0) ex5 ex6, sc E an Vn, hb E ah (ak0 0) (ak1 0) (ak2 0) (ak3 0) (ak4 0) (ak5 0) o1.1, sc E ak0 o1.2.1, sc E ak1 o1.2.2.1, sc E ak2 o1.2.2.2.1, sc E ak3 o1.2.2.2.2.1, sc E ak4 o1.2.2.2.2.2.1, sc E ak5 o1.2.2.2.2.2.2] 0 0 [(0, .ref (ax 0)), (1, .int p0), (2, .int p1), (3, .int p2)] [] 43
    refine g_aload_n C dX5_sense_43 rfl 0 rfl ?_
    refine g_get (Cl := RX5) (T := TX5) (N := 7) C mi_X5 0 rfl (List.mem_of_getElem? (i := 0) rfl) rfl 2 (by decide) mt_299 rfl rfl dX5_sense_44 ?_
    refine g_iload_n C dX5_sense_47 rfl 1 rfl ?_
    refine g_iload_n C dX5_sense_48 rfl 2 rfl ?_
    obtain ⟨o3, hq4, hf⟩ := bind_s hf
    refine g_callV (As := [.int p0, .int p1]) (rest := []) C k_X4_complains (fun l => c_X4_complains (E := E) (a := an) (V := Vn) hq4 l) mt_350 [1] rfl (by decide) ⟨_, _, _, _, List.mem_flatten.mpr ⟨_, List.mem_of_getElem? (i := 1) rfl, List.mem_of_getElem? (i := 0) rfl⟩, rfl⟩ rfl (Nat.le_of_ble_eq_true rfl) ⟨Nat.le_of_ble_eq_true rfl, Nat.le_of_ble_eq_true rfl, Nat.le_of_ble_eq_true rfl, Nat.le_of_ble_eq_true rfl⟩ dX5_sense_49 ?_
    rintro _ _ ⟨rfl, rfl⟩
    show G E X 5 [xo E ax ex0 ex1 (an 0) ex3 (ah 0) ex5 ex6, sc E an Vn, hb E ah (ak0 0) (ak1 0) (ak2 0) (ak3 0) (ak4 0) (ak5 0) o1.1, sc E ak0 o1.2.1, sc E ak1 o1.2.2.1, sc E ak2 o1.2.2.2.1, sc E ak3 o1.2.2.2.2.1, sc E ak4 o1.2.2.2.2.2.1, sc E ak5 o1.2.2.2.2.2.2] 0 0 [(0, .ref (ax 0)), (1, .int p0), (2, .int p1), (3, .int p2)] [.int o3] 52
    refine g_istore (lv2 := [(4, .int o3), (0, .ref (ax 0)), (1, .int p0), (2, .int p1), (3, .int p2)]) C dX5_sense_52 (by decide) rfl ?_
    refine g_aload_n C dX5_sense_54 rfl 1 rfl ?_
    refine g_get (Cl := RX5) (T := TX5) (N := 7) C mi_X5 0 rfl (List.mem_of_getElem? (i := 0) rfl) rfl 2 (by decide) mt_299 rfl rfl dX5_sense_55 ?_
    refine g_iload_n C dX5_sense_58 rfl 2 rfl ?_
    refine g_iload_n C dX5_sense_59 rfl 3 rfl ?_
    refine g_iload_n C dX5_sense_60 rfl 4 rfl ?_
    obtain ⟨o5, hq6, hf⟩ := bind_s hf
    refine g_callV (As := [.int p0, .int p1, .int p2]) (rest := []) C k_X4_setComplaint (fun l => c_X4_setComplaint (E := E) (a := an) (V := Vn) hq6 l) mt_354 [1] rfl (by decide) ⟨_, _, _, _, List.mem_flatten.mpr ⟨_, List.mem_of_getElem? (i := 1) rfl, List.mem_of_getElem? (i := 0) rfl⟩, rfl⟩ rfl (Nat.le_of_ble_eq_true rfl) ⟨Nat.le_of_ble_eq_true rfl, Nat.le_of_ble_eq_true rfl, Nat.le_of_ble_eq_true rfl, Nat.le_of_ble_eq_true rfl⟩ dX5_sense_61 ?_
    rintro _ _ ⟨rfl, rfl⟩
    show G E X 5 [xo E ax ex0 ex1 (an 0) ex3 (ah 0) ex5 ex6, sc E an o5, hb E ah (ak0 0) (ak1 0) (ak2 0) (ak3 0) (ak4 0) (ak5 0) o1.1, sc E ak0 o1.2.1, sc E ak1 o1.2.2.1, sc E ak2 o1.2.2.2.1, sc E ak3 o1.2.2.2.2.1, sc E ak4 o1.2.2.2.2.2.1, sc E ak5 o1.2.2.2.2.2.2] 0 0 [(4, .int o3), (0, .ref (ax 0)), (1, .int p0), (2, .int p1), (3, .int p2)] [] 64
    refine g_iload C dX5_sense_64 0 rfl ?_
    obtain rfl := Option.some.inj hf
    exact g_iret C K dX5_sense_66 (Nat.le_of_ble_eq_true rfl) (Nat.le_of_ble_eq_true rfl) ⟨rfl, rfl⟩
  have h18 : ∀ s : Unit, b_X5_sense_18 Vn Vh Vk0 Vk1 Vk2 Vk3 Vk4 Vk5 p0 p1 p2 s = some o → G E X 5 [xo E ax ex0 ex1 (an 0) ex3 (ah 0) ex5 ex6, sc E an Vn, hb E ah (ak0 0) (ak1 0) (ak2 0) (ak3 0) (ak4 0) (ak5 0) Vh, sc E ak0 Vk0, sc E ak1 Vk1, sc E ak2 Vk2, sc E ak3 Vk3, sc E ak4 Vk4, sc E ak5 Vk5] 0 0 [] [] 18 := by
    intro s hf
    unfold b_X5_sense_18 at hf
    refine g_iconst (v := (-1 : Int32)) C dX5_sense_18 ofI_m1 ?_
    obtain rfl := Option.some.inj hf
    exact g_iret C K dX5_sense_19 (Nat.le_of_ble_eq_true rfl) (Nat.le_of_ble_eq_true rfl) ⟨rfl, rfl⟩
  unfold f_X5_sense at hf
  refine g_iload_n C dX5_sense_0 rfl 1 rfl ?_
  refine g_if_lt (tgt := 18) C dX5_sense_1 (by decide) (fun c7 => ?_) (fun c7 => ?_)
  · have hf := (f_if hf).1 c7
    refine g_sub (lv2 := []) [] rfl ?_
    exact h18 () hf
  · have hf := (f_if hf).2 c7
    refine g_iload_n C dX5_sense_4 rfl 1 rfl ?_
    refine g_iconst (v := (4 : Int32)) C dX5_sense_5 (by decide) ?_
    refine g_icmp_ge (tgt := 18) C dX5_sense_6 (by decide) (fun c8 => ?_) (fun c8 => ?_)
    · have hf := (f_if hf).1 c8
      refine g_sub (lv2 := []) [] rfl ?_
      exact h18 () hf
    · have hf := (f_if hf).2 c8
      refine g_iload_n C dX5_sense_9 rfl 2 rfl ?_
      refine g_if_lt (tgt := 18) C dX5_sense_10 (by decide) (fun c9 => ?_) (fun c9 => ?_)
      · have hf := (f_if hf).1 c9
        refine g_sub (lv2 := []) [] rfl ?_
        exact h18 () hf
      · have hf := (f_if hf).2 c9
        refine g_iload_n C dX5_sense_13 rfl 2 rfl ?_
        refine g_iconst (v := (2 : Int32)) C dX5_sense_14 (by decide) ?_
        refine g_icmp_lt (tgt := 20) C dX5_sense_15 (by decide) (fun c10 => ?_) (fun c10 => ?_)
        · have hf := (f_if hf).1 c10
          refine g_iload_n C dX5_sense_20 rfl 3 rfl ?_
          refine g_if_eq (tgt := 32) C dX5_sense_21 (by decide) (fun c11 => ?_) (fun c11 => ?_)
          · have hf := (f_if hf).1 c11
            exact h32 () hf
          · have hf := (f_if hf).2 c11
            refine g_iload_n C dX5_sense_24 rfl 3 rfl ?_
            refine g_iconst (v := (1 : Int32)) C dX5_sense_25 (by decide) ?_
            refine g_icmp_eq (tgt := 32) C dX5_sense_26 (by decide) (fun c12 => ?_) (fun c12 => ?_)
            · have hf := (f_if hf).1 c12
              exact h32 () hf
            · have hf := (f_if hf).2 c12
              refine g_bipush (v := (-2 : Int32)) C dX5_sense_29 (by decide) ?_
              obtain rfl := Option.some.inj hf
              exact g_iret C K dX5_sense_31 (Nat.le_of_ble_eq_true rfl) (Nat.le_of_ble_eq_true rfl) ⟨rfl, rfl⟩
        · have hf := (f_if hf).2 c10
          refine g_sub (lv2 := []) [] rfl ?_
          exact h18 () hf
def f_X5_stop (N : Nat) (Vn : St) (Vh : Hb) (Vk0 : St) (Vk1 : St) (Vk2 : St) (Vk3 : St) (Vk4 : St) (Vk5 : St) : Option (Int32 × St × Hb × St × St × St × St × St × St) := (if Vn.2.2.2.2.2.2.2.2.2.1 = 0 then ((f_X0_record Vh Vk0 Vk1 Vk2 Vk3 Vk4 Vk5 Vn).bind fun o2 => ((f_X4_beginStop N Vn (1 : Int32)).bind fun o4 => some (o4.2.2.2.2.2.2.2.2.2.2.2.1, o4, o2.1, o2.2.1, o2.2.2.1, o2.2.2.2.1, o2.2.2.2.2.1, o2.2.2.2.2.2.1, o2.2.2.2.2.2.2))) else some ((-5 : Int32), Vn, Vh, Vk0, Vk1, Vk2, Vk3, Vk4, Vk5))
abbrev rm_X5_stop : Room := { frames := 3, cells := 0, slots := 0, locals := 62 }
set_option maxRecDepth 100000 in
theorem k_X5_stop : CF yX5_stop cX5_stop 1 (some .int) 0 := ⟨mt_605, mt_606, mt_1, mt_607, ⟨rfl, by decide +kernel, by decide +kernel, by decide +kernel⟩⟩
set_option maxHeartbeats 4000000 in
set_option maxRecDepth 100000 in
theorem c_X5_stop {E : Ev} {ex0 : Nat} {ex1 : Nat} {ex3 : Nat} {ex5 : Nat} {ex6 : Nat} {ax : Nat → Nat} {an : Nat → Nat} {Vn : St} {ah : Nat → Nat} {Vh : Hb} {ak0 : Nat → Nat} {Vk0 : St} {ak1 : Nat → Nat} {Vk1 : St} {ak2 : Nat → Nat} {Vk2 : St} {ak3 : Nat → Nat} {Vk3 : St} {ak4 : Nat → Nat} {Vk4 : St} {ak5 : Nat → Nat} {Vk5 : St} {N : Nat} {o : Int32 × St × Hb × St × St × St × St × St × St} (hf : f_X5_stop N Vn Vh Vk0 Vk1 Vk2 Vk3 Vk4 Vk5 = some o) : ∀ l, MG l yX5_stop cX5_stop 1 (some .int) rm_X5_stop E [.ref (ax 0)] [xo E ax ex0 ex1 (an 0) ex3 (ah 0) ex5 ex6, sc E an Vn, hb E ah (ak0 0) (ak1 0) (ak2 0) (ak3 0) (ak4 0) (ak5 0) Vh, sc E ak0 Vk0, sc E ak1 Vk1, sc E ak2 Vk2, sc E ak3 Vk3, sc E ak4 Vk4, sc E ak5 Vk5] (fun v Y => v = some (.int o.1) ∧ Y = [xo E ax ex0 ex1 (an 0) ex3 (ah 0) ex5 ex6, sc E an o.2.1, hb E ah (ak0 0) (ak1 0) (ak2 0) (ak3 0) (ak4 0) (ak5 0) o.2.2.1, sc E ak0 o.2.2.2.1, sc E ak1 o.2.2.2.2.1, sc E ak2 o.2.2.2.2.2.1, sc E ak3 o.2.2.2.2.2.2.1, sc E ak4 o.2.2.2.2.2.2.2.1, sc E ak5 o.2.2.2.2.2.2.2.2]) := by
  refine MG.mk (own := RX5) (lv0 := [(0, .ref (ax 0))]) (by decide) rfl (Nat.le_of_ble_eq_true rfl) rfl (fun X C K I => ?_)
  unfold f_X5_stop at hf
  refine g_aload_n C dX5_stop_0 rfl 0 rfl ?_
  refine g_get (Cl := RX5) (T := TX5) (N := 7) C mi_X5 0 rfl (List.mem_of_getElem? (i := 0) rfl) rfl 2 (by decide) mt_299 rfl rfl dX5_stop_1 ?_
  refine g_get (Cl := RX4) (T := TX4) (N := 18) C mi_X4 1 rfl (List.mem_of_getElem? (i := 0) rfl) rfl 9 (by decide) mt_229 rfl rfl dX5_stop_4 ?_
  refine g_if_eq (tgt := 13) C dX5_stop_7 (by decide) (fun c1 => ?_) (fun c1 => ?_)
  · have hf := (f_if hf).1 c1
    refine g_aload_n C dX5_stop_13 rfl 0 rfl ?_
    refine g_get (Cl := RX5) (T := TX5) (N := 7) C mi_X5 0 rfl (List.mem_of_getElem? (i := 0) rfl) rfl 4 (by decide) mt_301 rfl rfl dX5_stop_14 ?_
    refine g_aload_n C dX5_stop_17 rfl 0 rfl ?_
    refine g_get (Cl := RX5) (T := TX5) (N := 7) C mi_X5 0 rfl (List.mem_of_getElem? (i := 0) rfl) rfl 2 (by decide) mt_299 rfl rfl dX5_stop_18 ?_
    obtain ⟨o2, hq3, hf⟩ := bind_s hf
    refine g_callV (As := [.ref (an 0)]) (rest := []) C k_X0_record (fun l => c_X0_record (E := E) (ah := ah) (Vh := Vh) (ak0 := ak0) (Vk0 := Vk0) (ak1 := ak1) (Vk1 := Vk1) (ak2 := ak2) (Vk2 := Vk2) (ak3 := ak3) (Vk3 := Vk3) (ak4 := ak4) (Vk4 := Vk4) (ak5 := ak5) (Vk5 := Vk5) (aw := an) (Vw := Vn) hq3 l) mt_327 [2, 3, 4, 5, 6, 7, 8, 1] rfl (by decide) ⟨_, _, _, _, List.mem_flatten.mpr ⟨_, List.mem_of_getElem? (i := 2) rfl, List.mem_of_getElem? (i := 0) rfl⟩, rfl⟩ rfl (Nat.le_of_ble_eq_true rfl) ⟨Nat.le_of_ble_eq_true rfl, Nat.le_of_ble_eq_true rfl, Nat.le_of_ble_eq_true rfl, Nat.le_of_ble_eq_true rfl⟩ dX5_stop_21 ?_
    rintro _ _ ⟨rfl, rfl⟩
    show G E X 1 [xo E ax ex0 ex1 (an 0) ex3 (ah 0) ex5 ex6, sc E an Vn, hb E ah (ak0 0) (ak1 0) (ak2 0) (ak3 0) (ak4 0) (ak5 0) o2.1, sc E ak0 o2.2.1, sc E ak1 o2.2.2.1, sc E ak2 o2.2.2.2.1, sc E ak3 o2.2.2.2.2.1, sc E ak4 o2.2.2.2.2.2.1, sc E ak5 o2.2.2.2.2.2.2] 0 0 [(0, .ref (ax 0))] [] 24
    refine g_aload_n C dX5_stop_24 rfl 0 rfl ?_
    refine g_get (Cl := RX5) (T := TX5) (N := 7) C mi_X5 0 rfl (List.mem_of_getElem? (i := 0) rfl) rfl 2 (by decide) mt_299 rfl rfl dX5_stop_25 ?_
    refine g_iconst (v := (1 : Int32)) C dX5_stop_28 (by decide) ?_
    obtain ⟨o4, hq5, hf⟩ := bind_s hf
    refine g_callV (As := [.int (1 : Int32)]) (rest := []) C k_X4_beginStop (fun l => c_X4_beginStop (E := E) (a := an) (V := Vn) hq5 l) mt_608 [1] rfl (by decide) ⟨_, _, _, _, List.mem_flatten.mpr ⟨_, List.mem_of_getElem? (i := 1) rfl, List.mem_of_getElem? (i := 0) rfl⟩, rfl⟩ rfl (Nat.le_of_ble_eq_true rfl) ⟨Nat.le_of_ble_eq_true rfl, Nat.le_of_ble_eq_true rfl, Nat.le_of_ble_eq_true rfl, Nat.le_of_ble_eq_true rfl⟩ dX5_stop_29 ?_
    rintro _ _ ⟨rfl, rfl⟩
    show G E X 1 [xo E ax ex0 ex1 (an 0) ex3 (ah 0) ex5 ex6, sc E an o4, hb E ah (ak0 0) (ak1 0) (ak2 0) (ak3 0) (ak4 0) (ak5 0) o2.1, sc E ak0 o2.2.1, sc E ak1 o2.2.2.1, sc E ak2 o2.2.2.2.1, sc E ak3 o2.2.2.2.2.1, sc E ak4 o2.2.2.2.2.2.1, sc E ak5 o2.2.2.2.2.2.2] 0 0 [(0, .ref (ax 0))] [] 32
    refine g_aload_n C dX5_stop_32 rfl 0 rfl ?_
    refine g_get (Cl := RX5) (T := TX5) (N := 7) C mi_X5 0 rfl (List.mem_of_getElem? (i := 0) rfl) rfl 2 (by decide) mt_299 rfl rfl dX5_stop_33 ?_
    refine g_get (Cl := RX4) (T := TX4) (N := 18) C mi_X4 1 rfl (List.mem_of_getElem? (i := 0) rfl) rfl 11 (by decide) mt_233 rfl rfl dX5_stop_36 ?_
    obtain rfl := Option.some.inj hf
    exact g_iret C K dX5_stop_39 (Nat.le_of_ble_eq_true rfl) (Nat.le_of_ble_eq_true rfl) ⟨rfl, rfl⟩
  · have hf := (f_if hf).2 c1
    refine g_bipush (v := (-5 : Int32)) C dX5_stop_10 (by decide) ?_
    obtain rfl := Option.some.inj hf
    exact g_iret C K dX5_stop_12 (Nat.le_of_ble_eq_true rfl) (Nat.le_of_ble_eq_true rfl) ⟨rfl, rfl⟩
def b_X5_restart_21 (N : Nat) (Vn : St) (Vh : Hb) (Vk0 : St) (Vk1 : St) (Vk2 : St) (Vk3 : St) (Vk4 : St) (Vk5 : St) (Ru : Ru) (s : Unit) : Option (Int32 × St × Hb × St × St × St × St × St × St) := some ((-5 : Int32), Vn, Vh, Vk0, Vk1, Vk2, Vk3, Vk4, Vk5)
def f_X5_restart (N : Nat) (Vn : St) (Vh : Hb) (Vk0 : St) (Vk1 : St) (Vk2 : St) (Vk3 : St) (Vk4 : St) (Vk5 : St) (Ru : Ru) : Option (Int32 × St × Hb × St × St × St × St × St × St) := (if Vn.2.2.2.2.2.2.2.2.2.1 = (2 : Int32) then ((f_X4_ruleHolds N Vn Ru).bind fun o2 => (if o2 = 0 then ((f_X0_record Vh Vk0 Vk1 Vk2 Vk3 Vk4 Vk5 Vn).bind fun o5 => some (Vn.2.2.2.2.2.2.2.1, (Vn.1, Vn.2.1, Vn.2.2.1, Vn.2.2.2.1, Vn.2.2.2.2.1, Vn.2.2.2.2.2.1, Vn.2.2.2.2.2.2.1, Vn.2.2.2.2.2.2.2.1, Vn.2.2.2.2.2.2.2.2.1, (0 : Int32), Vn.2.2.2.2.2.2.2.2.2.2.1, Vn.2.2.2.2.2.2.2.2.2.2.2.1, Vn.2.2.2.2.2.2.2.2.2.2.2.2.1, Vn.2.2.2.2.2.2.2.2.2.2.2.2.2.1, Vn.2.2.2.2.2.2.2.2.2.2.2.2.2.2.1, Vn.2.2.2.2.2.2.2.2.2.2.2.2.2.2.2.1, Vn.2.2.2.2.2.2.2.2.2.2.2.2.2.2.2.2.1, Vn.2.2.2.2.2.2.2.2.2.2.2.2.2.2.2.2.2), o5.1, o5.2.1, o5.2.2.1, o5.2.2.2.1, o5.2.2.2.2.1, o5.2.2.2.2.2.1, o5.2.2.2.2.2.2)) else b_X5_restart_21 N Vn Vh Vk0 Vk1 Vk2 Vk3 Vk4 Vk5 Ru ())) else b_X5_restart_21 N Vn Vh Vk0 Vk1 Vk2 Vk3 Vk4 Vk5 Ru ())
abbrev rm_X5_restart : Room := { frames := 5, cells := 0, slots := 0, locals := 115 }
set_option maxRecDepth 100000 in
theorem k_X5_restart : CF yX5_restart cX5_restart 1 (some .int) 0 := ⟨mt_359, mt_360, mt_1, mt_361, ⟨rfl, by decide +kernel, by decide +kernel, by decide +kernel⟩⟩
set_option maxHeartbeats 4000000 in
set_option maxRecDepth 100000 in
theorem c_X5_restart {E : Ev} {ex0 : Nat} {ex1 : Nat} {ex3 : Nat} {ex5 : Nat} {ex6 : Nat} {ax : Nat → Nat} {an : Nat → Nat} {Vn : St} {ah : Nat → Nat} {Vh : Hb} {ak0 : Nat → Nat} {Vk0 : St} {ak1 : Nat → Nat} {Vk1 : St} {ak2 : Nat → Nat} {Vk2 : St} {ak3 : Nat → Nat} {Vk3 : St} {ak4 : Nat → Nat} {Vk4 : St} {ak5 : Nat → Nat} {Vk5 : St} {gu : va_W} {bu : Nat → Nat} {Ru : Ru} (hgu : ∀ c ∈ ru E Vn.2.2.2.2.2.2.1 bu Ru, c ∈ gu) {N : Nat} {o : Int32 × St × Hb × St × St × St × St × St × St} (hf : f_X5_restart N Vn Vh Vk0 Vk1 Vk2 Vk3 Vk4 Vk5 Ru = some o) : ∀ l, MG l yX5_restart cX5_restart 1 (some .int) rm_X5_restart E [.ref (ax 0)] [xo E ax ex0 ex1 (an 0) ex3 (ah 0) ex5 ex6, sc E an Vn, hb E ah (ak0 0) (ak1 0) (ak2 0) (ak3 0) (ak4 0) (ak5 0) Vh, sc E ak0 Vk0, sc E ak1 Vk1, sc E ak2 Vk2, sc E ak3 Vk3, sc E ak4 Vk4, sc E ak5 Vk5, gu] (fun v Y => v = some (.int o.1) ∧ Y = [xo E ax ex0 ex1 (an 0) ex3 (ah 0) ex5 ex6, sc E an o.2.1, hb E ah (ak0 0) (ak1 0) (ak2 0) (ak3 0) (ak4 0) (ak5 0) o.2.2.1, sc E ak0 o.2.2.2.1, sc E ak1 o.2.2.2.2.1, sc E ak2 o.2.2.2.2.2.1, sc E ak3 o.2.2.2.2.2.2.1, sc E ak4 o.2.2.2.2.2.2.2.1, sc E ak5 o.2.2.2.2.2.2.2.2, gu]) := by
  refine MG.mk (own := RX5) (lv0 := [(0, .ref (ax 0))]) (by decide) rfl (Nat.le_of_ble_eq_true rfl) rfl (fun X C K I => ?_)
  have h21 : ∀ s : Unit, b_X5_restart_21 N Vn Vh Vk0 Vk1 Vk2 Vk3 Vk4 Vk5 Ru s = some o → G E X 1 [xo E ax ex0 ex1 (an 0) ex3 (ah 0) ex5 ex6, sc E an Vn, hb E ah (ak0 0) (ak1 0) (ak2 0) (ak3 0) (ak4 0) (ak5 0) Vh, sc E ak0 Vk0, sc E ak1 Vk1, sc E ak2 Vk2, sc E ak3 Vk3, sc E ak4 Vk4, sc E ak5 Vk5, gu] 0 0 [] [] 21 := by
    intro s hf
    unfold b_X5_restart_21 at hf
    refine g_bipush (v := (-5 : Int32)) C dX5_restart_21 (by decide) ?_
    obtain rfl := Option.some.inj hf
    exact g_iret C K dX5_restart_23 (Nat.le_of_ble_eq_true rfl) (Nat.le_of_ble_eq_true rfl) ⟨rfl, rfl⟩
  unfold f_X5_restart at hf
  refine g_aload_n C dX5_restart_0 rfl 0 rfl ?_
  refine g_get (Cl := RX5) (T := TX5) (N := 7) C mi_X5 0 rfl (List.mem_of_getElem? (i := 0) rfl) rfl 2 (by decide) mt_299 rfl rfl dX5_restart_1 ?_
  refine g_get (Cl := RX4) (T := TX4) (N := 18) C mi_X4 1 rfl (List.mem_of_getElem? (i := 0) rfl) rfl 9 (by decide) mt_229 rfl rfl dX5_restart_4 ?_
  refine g_iconst (v := (2 : Int32)) C dX5_restart_7 (by decide) ?_
  refine g_icmp_ne (tgt := 21) C dX5_restart_8 (by decide) (fun c1 => ?_) (fun c1 => ?_)
  · have hf := (f_if hf).2 c1
    refine g_sub (lv2 := []) [] rfl ?_
    exact h21 () hf
  · have hf := (f_if hf).1 c1
    refine g_aload_n C dX5_restart_11 rfl 0 rfl ?_
    refine g_get (Cl := RX5) (T := TX5) (N := 7) C mi_X5 0 rfl (List.mem_of_getElem? (i := 0) rfl) rfl 2 (by decide) mt_299 rfl rfl dX5_restart_12 ?_
    obtain ⟨o2, hq3, hf⟩ := bind_s hf
    refine g_callV (As := []) (rest := []) C k_X4_ruleHolds (fun l => c_X4_ruleHolds (E := E) (a := an) (V := Vn) (gx := gu) (bx := bu) (Rx := Ru) hgu hq3 l) mt_362 [1, 9] rfl (by decide) ⟨_, _, _, _, List.mem_flatten.mpr ⟨_, List.mem_of_getElem? (i := 1) rfl, List.mem_of_getElem? (i := 0) rfl⟩, rfl⟩ rfl (Nat.le_of_ble_eq_true rfl) ⟨Nat.le_of_ble_eq_true rfl, Nat.le_of_ble_eq_true rfl, Nat.le_of_ble_eq_true rfl, Nat.le_of_ble_eq_true rfl⟩ dX5_restart_15 ?_
    rintro _ _ ⟨rfl, rfl⟩
    show G E X 1 [xo E ax ex0 ex1 (an 0) ex3 (ah 0) ex5 ex6, sc E an Vn, hb E ah (ak0 0) (ak1 0) (ak2 0) (ak3 0) (ak4 0) (ak5 0) Vh, sc E ak0 Vk0, sc E ak1 Vk1, sc E ak2 Vk2, sc E ak3 Vk3, sc E ak4 Vk4, sc E ak5 Vk5, gu] 0 0 [(0, .ref (ax 0))] [.int o2] 18
    refine g_if_eq (tgt := 24) C dX5_restart_18 (by decide) (fun c4 => ?_) (fun c4 => ?_)
    · have hf := (f_if hf).1 c4
      refine g_aload_n C dX5_restart_24 rfl 0 rfl ?_
      refine g_get (Cl := RX5) (T := TX5) (N := 7) C mi_X5 0 rfl (List.mem_of_getElem? (i := 0) rfl) rfl 4 (by decide) mt_301 rfl rfl dX5_restart_25 ?_
      refine g_aload_n C dX5_restart_28 rfl 0 rfl ?_
      refine g_get (Cl := RX5) (T := TX5) (N := 7) C mi_X5 0 rfl (List.mem_of_getElem? (i := 0) rfl) rfl 2 (by decide) mt_299 rfl rfl dX5_restart_29 ?_
      obtain ⟨o5, hq6, hf⟩ := bind_s hf
      refine g_callV (As := [.ref (an 0)]) (rest := []) C k_X0_record (fun l => c_X0_record (E := E) (ah := ah) (Vh := Vh) (ak0 := ak0) (Vk0 := Vk0) (ak1 := ak1) (Vk1 := Vk1) (ak2 := ak2) (Vk2 := Vk2) (ak3 := ak3) (Vk3 := Vk3) (ak4 := ak4) (Vk4 := Vk4) (ak5 := ak5) (Vk5 := Vk5) (aw := an) (Vw := Vn) hq6 l) mt_327 [2, 3, 4, 5, 6, 7, 8, 1] rfl (by decide) ⟨_, _, _, _, List.mem_flatten.mpr ⟨_, List.mem_of_getElem? (i := 2) rfl, List.mem_of_getElem? (i := 0) rfl⟩, rfl⟩ rfl (Nat.le_of_ble_eq_true rfl) ⟨Nat.le_of_ble_eq_true rfl, Nat.le_of_ble_eq_true rfl, Nat.le_of_ble_eq_true rfl, Nat.le_of_ble_eq_true rfl⟩ dX5_restart_32 ?_
      rintro _ _ ⟨rfl, rfl⟩
      show G E X 1 [xo E ax ex0 ex1 (an 0) ex3 (ah 0) ex5 ex6, sc E an Vn, hb E ah (ak0 0) (ak1 0) (ak2 0) (ak3 0) (ak4 0) (ak5 0) o5.1, sc E ak0 o5.2.1, sc E ak1 o5.2.2.1, sc E ak2 o5.2.2.2.1, sc E ak3 o5.2.2.2.2.1, sc E ak4 o5.2.2.2.2.2.1, sc E ak5 o5.2.2.2.2.2.2, gu] 0 0 [(0, .ref (ax 0))] [] 35
      refine g_aload_n C dX5_restart_35 rfl 0 rfl ?_
      refine g_get (Cl := RX5) (T := TX5) (N := 7) C mi_X5 0 rfl (List.mem_of_getElem? (i := 0) rfl) rfl 2 (by decide) mt_299 rfl rfl dX5_restart_36 ?_
      refine g_iconst (v := (0 : Int32)) C dX5_restart_39 (by decide) ?_
      refine g_put (Cl := RX4) (T := TX4) (N := 18) (Y2 := [xo E ax ex0 ex1 (an 0) ex3 (ah 0) ex5 ex6, sc E an (Vn.1, Vn.2.1, Vn.2.2.1, Vn.2.2.2.1, Vn.2.2.2.2.1, Vn.2.2.2.2.2.1, Vn.2.2.2.2.2.2.1, Vn.2.2.2.2.2.2.2.1, Vn.2.2.2.2.2.2.2.2.1, (0 : Int32), Vn.2.2.2.2.2.2.2.2.2.2.1, Vn.2.2.2.2.2.2.2.2.2.2.2.1, Vn.2.2.2.2.2.2.2.2.2.2.2.2.1, Vn.2.2.2.2.2.2.2.2.2.2.2.2.2.1, Vn.2.2.2.2.2.2.2.2.2.2.2.2.2.2.1, Vn.2.2.2.2.2.2.2.2.2.2.2.2.2.2.2.1, Vn.2.2.2.2.2.2.2.2.2.2.2.2.2.2.2.2.1, Vn.2.2.2.2.2.2.2.2.2.2.2.2.2.2.2.2.2), hb E ah (ak0 0) (ak1 0) (ak2 0) (ak3 0) (ak4 0) (ak5 0) o5.1, sc E ak0 o5.2.1, sc E ak1 o5.2.2.1, sc E ak2 o5.2.2.2.1, sc E ak3 o5.2.2.2.2.1, sc E ak4 o5.2.2.2.2.2.1, sc E ak5 o5.2.2.2.2.2.2, gu]) C mi_X4 tyX4_ok nmX4 1 0 rfl rfl rfl 9 (by decide) mt_229 rfl rfl rfl rfl rfl (Nat.le_of_ble_eq_true rfl) dX5_restart_40 rfl ?_
      refine g_aload_n C dX5_restart_43 rfl 0 rfl ?_
      refine g_get (Cl := RX5) (T := TX5) (N := 7) C mi_X5 0 rfl (List.mem_of_getElem? (i := 0) rfl) rfl 2 (by decide) mt_299 rfl rfl dX5_restart_44 ?_
      refine g_get (Cl := RX4) (T := TX4) (N := 18) C mi_X4 1 rfl (List.mem_of_getElem? (i := 0) rfl) rfl 7 (by decide) mt_225 rfl rfl dX5_restart_47 ?_
      obtain rfl := Option.some.inj hf
      exact g_iret C K dX5_restart_50 (Nat.le_of_ble_eq_true rfl) (Nat.le_of_ble_eq_true rfl) ⟨rfl, rfl⟩
    · have hf := (f_if hf).2 c4
      refine g_sub (lv2 := []) [] rfl ?_
      exact h21 () hf
def b_X5_pass_53 (N : Nat) (Vn : St) (Vh : Hb) (Vk0 : St) (Vk1 : St) (Vk2 : St) (Vk3 : St) (Vk4 : St) (Vk5 : St) (Ru : Ru) (p0 : Int32) (K53 : (St × Hb × St × St × St × St × St × St × Int32 × Int32) → Option (Int32 × St × Hb × St × St × St × St × St × St)) (s : St × Hb × St × St × St × St × St × St × Int32 × Int32) : Option (Int32 × St × Hb × St × St × St × St × St × St) := (if p0 ≤ s.2.2.2.2.2.2.2.2.2 then some (s.1.2.2.2.2.2.2.2.2.2.2.1, s.1, s.2.1, s.2.2.1, s.2.2.2.1, s.2.2.2.2.1, s.2.2.2.2.2.1, s.2.2.2.2.2.2.1, s.2.2.2.2.2.2.2.1) else ((f_X4_passTick N s.1 s.2.2.2.2.2.2.2.2.1).bind fun o2 => K53 (o2, s.2.1, s.2.2.1, s.2.2.2.1, s.2.2.2.2.1, s.2.2.2.2.2.1, s.2.2.2.2.2.2.1, s.2.2.2.2.2.2.2.1, s.2.2.2.2.2.2.2.2.1, (s.2.2.2.2.2.2.2.2.2 + (1 : Int32)))))
def b_X5_pass_12 (N : Nat) (Vn : St) (Vh : Hb) (Vk0 : St) (Vk1 : St) (Vk2 : St) (Vk3 : St) (Vk4 : St) (Vk5 : St) (Ru : Ru) (p0 : Int32) (s : Unit) : Option (Int32 × St × Hb × St × St × St × St × St × St) := some ((-2 : Int32), Vn, Vh, Vk0, Vk1, Vk2, Vk3, Vk4, Vk5)
def f_X5_pass (N : Nat) (Vn : St) (Vh : Hb) (Vk0 : St) (Vk1 : St) (Vk2 : St) (Vk3 : St) (Vk4 : St) (Vk5 : St) (Ru : Ru) (p0 : Int32) : Option (Int32 × St × Hb × St × St × St × St × St × St) := (if p0 < (1 : Int32) then b_X5_pass_12 N Vn Vh Vk0 Vk1 Vk2 Vk3 Vk4 Vk5 Ru p0 () else (if p0 ≤ (999 : Int32) then (if Vn.2.2.2.2.2.2.2.2.2.2.1 ≤ ((99999 : Int32) - p0) then ((f_X0_record Vh Vk0 Vk1 Vk2 Vk3 Vk4 Vk5 Vn).bind fun o7 => ((f_X4_ruleHolds N Vn Ru).bind fun o9 => lp (b_X5_pass_53 N Vn Vh Vk0 Vk1 Vk2 Vk3 Vk4 Vk5 Ru p0) N (Vn, o7.1, o7.2.1, o7.2.2.1, o7.2.2.2.1, o7.2.2.2.2.1, o7.2.2.2.2.2.1, o7.2.2.2.2.2.2, o9, (0 : Int32)))) else some ((-4 : Int32), Vn, Vh, Vk0, Vk1, Vk2, Vk3, Vk4, Vk5)) else b_X5_pass_12 N Vn Vh Vk0 Vk1 Vk2 Vk3 Vk4 Vk5 Ru p0 ()))
abbrev rm_X5_pass : Room := { frames := 5, cells := 0, slots := 0, locals := 115 }
set_option maxRecDepth 100000 in
theorem k_X5_pass : CF yX5_pass cX5_pass 4 (some .int) 1 := ⟨mt_387, mt_388, mt_1, mt_389, ⟨rfl, by decide +kernel, by decide +kernel, by decide +kernel⟩⟩
set_option maxHeartbeats 4000000 in
set_option maxRecDepth 100000 in
theorem c_X5_pass {E : Ev} {ex0 : Nat} {ex1 : Nat} {ex3 : Nat} {ex5 : Nat} {ex6 : Nat} {ax : Nat → Nat} {an : Nat → Nat} {Vn : St} {ah : Nat → Nat} {Vh : Hb} {ak0 : Nat → Nat} {Vk0 : St} {ak1 : Nat → Nat} {Vk1 : St} {ak2 : Nat → Nat} {Vk2 : St} {ak3 : Nat → Nat} {Vk3 : St} {ak4 : Nat → Nat} {Vk4 : St} {ak5 : Nat → Nat} {Vk5 : St} {gu : va_W} {bu : Nat → Nat} {Ru : Ru} (hgu : ∀ c ∈ ru E Vn.2.2.2.2.2.2.1 bu Ru, c ∈ gu) {p0 : Int32} {N : Nat} {o : Int32 × St × Hb × St × St × St × St × St × St} (hf : f_X5_pass N Vn Vh Vk0 Vk1 Vk2 Vk3 Vk4 Vk5 Ru p0 = some o) : ∀ l, MG l yX5_pass cX5_pass 4 (some .int) rm_X5_pass E [.ref (ax 0), .int p0] [xo E ax ex0 ex1 (an 0) ex3 (ah 0) ex5 ex6, sc E an Vn, hb E ah (ak0 0) (ak1 0) (ak2 0) (ak3 0) (ak4 0) (ak5 0) Vh, sc E ak0 Vk0, sc E ak1 Vk1, sc E ak2 Vk2, sc E ak3 Vk3, sc E ak4 Vk4, sc E ak5 Vk5, gu] (fun v Y => v = some (.int o.1) ∧ Y = [xo E ax ex0 ex1 (an 0) ex3 (ah 0) ex5 ex6, sc E an o.2.1, hb E ah (ak0 0) (ak1 0) (ak2 0) (ak3 0) (ak4 0) (ak5 0) o.2.2.1, sc E ak0 o.2.2.2.1, sc E ak1 o.2.2.2.2.1, sc E ak2 o.2.2.2.2.2.1, sc E ak3 o.2.2.2.2.2.2.1, sc E ak4 o.2.2.2.2.2.2.2.1, sc E ak5 o.2.2.2.2.2.2.2.2, gu]) := by
  refine MG.mk (own := RX5) (lv0 := [(0, .ref (ax 0)), (1, .int p0)]) (by decide) rfl (Nat.le_of_ble_eq_true rfl) rfl (fun X C K I => ?_)
  have h53 : ∀ (n : Nat) (s : St × Hb × St × St × St × St × St × St × Int32 × Int32), lp (b_X5_pass_53 N Vn Vh Vk0 Vk1 Vk2 Vk3 Vk4 Vk5 Ru p0) n s = some o → G E X 4 [xo E ax ex0 ex1 (an 0) ex3 (ah 0) ex5 ex6, sc E an s.1, hb E ah (ak0 0) (ak1 0) (ak2 0) (ak3 0) (ak4 0) (ak5 0) s.2.1, sc E ak0 s.2.2.1, sc E ak1 s.2.2.2.1, sc E ak2 s.2.2.2.2.1, sc E ak3 s.2.2.2.2.2.1, sc E ak4 s.2.2.2.2.2.2.1, sc E ak5 s.2.2.2.2.2.2.2.1, gu] 0 0 [(0, .ref (ax 0)), (1, .int p0), (2, .int s.2.2.2.2.2.2.2.2.1), (3, .int s.2.2.2.2.2.2.2.2.2)] [] 53 := by
    refine lp_ind ?_
    intro K53 hK53 s hf
    unfold b_X5_pass_53 at hf
    refine g_iload_n C dX5_pass_53 rfl 3 rfl ?_
    refine g_iload_n C dX5_pass_54 rfl 1 rfl ?_
    refine g_icmp_ge (tgt := 72) C dX5_pass_55 (by decide) (fun c1 => ?_) (fun c1 => ?_)
    · have hf := (f_if hf).1 c1
      refine g_aload_n C dX5_pass_72 rfl 0 rfl ?_
      refine g_get (Cl := RX5) (T := TX5) (N := 7) C mi_X5 0 rfl (List.mem_of_getElem? (i := 0) rfl) rfl 2 (by decide) mt_299 rfl rfl dX5_pass_73 ?_
      refine g_get (Cl := RX4) (T := TX4) (N := 18) C mi_X4 1 rfl (List.mem_of_getElem? (i := 0) rfl) rfl 10 (by decide) mt_231 rfl rfl dX5_pass_76 ?_
      obtain rfl := Option.some.inj hf
      exact g_iret C K dX5_pass_79 (Nat.le_of_ble_eq_true rfl) (Nat.le_of_ble_eq_true rfl) ⟨rfl, rfl⟩
    · have hf := (f_if hf).2 c1
      refine g_aload_n C dX5_pass_58 rfl 0 rfl ?_
      refine g_get (Cl := RX5) (T := TX5) (N := 7) C mi_X5 0 rfl (List.mem_of_getElem? (i := 0) rfl) rfl 2 (by decide) mt_299 rfl rfl dX5_pass_59 ?_
      refine g_iload_n C dX5_pass_62 rfl 2 rfl ?_
      obtain ⟨o2, hq3, hf⟩ := bind_s hf
      refine g_callV (As := [.int s.2.2.2.2.2.2.2.2.1]) (rest := []) C k_X4_passTick (fun l => c_X4_passTick (E := E) (a := an) (V := s.1) hq3 l) mt_391 [1] rfl (by decide) ⟨_, _, _, _, List.mem_flatten.mpr ⟨_, List.mem_of_getElem? (i := 1) rfl, List.mem_of_getElem? (i := 0) rfl⟩, rfl⟩ rfl (Nat.le_of_ble_eq_true rfl) ⟨Nat.le_of_ble_eq_true rfl, Nat.le_of_ble_eq_true rfl, Nat.le_of_ble_eq_true rfl, Nat.le_of_ble_eq_true rfl⟩ dX5_pass_63 ?_
      rintro _ _ ⟨rfl, rfl⟩
      show G E X 4 [xo E ax ex0 ex1 (an 0) ex3 (ah 0) ex5 ex6, sc E an o2, hb E ah (ak0 0) (ak1 0) (ak2 0) (ak3 0) (ak4 0) (ak5 0) s.2.1, sc E ak0 s.2.2.1, sc E ak1 s.2.2.2.1, sc E ak2 s.2.2.2.2.1, sc E ak3 s.2.2.2.2.2.1, sc E ak4 s.2.2.2.2.2.2.1, sc E ak5 s.2.2.2.2.2.2.2.1, gu] 0 0 [(0, .ref (ax 0)), (1, .int p0), (2, .int s.2.2.2.2.2.2.2.2.1), (3, .int s.2.2.2.2.2.2.2.2.2)] [] 66
      refine g_iinc (v := (s.2.2.2.2.2.2.2.2.2 + (1 : Int32))) (lv2 := [(3, .int (s.2.2.2.2.2.2.2.2.2 + (1 : Int32))), (0, .ref (ax 0)), (1, .int p0), (2, .int s.2.2.2.2.2.2.2.2.1)]) C dX5_pass_66 3 rfl (ii (by decide)) (by decide) rfl ?_
      refine g_goto (tgt := 53) C dX5_pass_69 (by decide) ?_
      refine g_sub (lv2 := [(0, .ref (ax 0)), (1, .int p0), (2, .int s.2.2.2.2.2.2.2.2.1), (3, .int (s.2.2.2.2.2.2.2.2.2 + (1 : Int32)))]) [1, 2, 3, 0] rfl ?_
      exact hK53 (o2, s.2.1, s.2.2.1, s.2.2.2.1, s.2.2.2.2.1, s.2.2.2.2.2.1, s.2.2.2.2.2.2.1, s.2.2.2.2.2.2.2.1, s.2.2.2.2.2.2.2.2.1, (s.2.2.2.2.2.2.2.2.2 + (1 : Int32))) hf
  have h12 : ∀ s : Unit, b_X5_pass_12 N Vn Vh Vk0 Vk1 Vk2 Vk3 Vk4 Vk5 Ru p0 s = some o → G E X 4 [xo E ax ex0 ex1 (an 0) ex3 (ah 0) ex5 ex6, sc E an Vn, hb E ah (ak0 0) (ak1 0) (ak2 0) (ak3 0) (ak4 0) (ak5 0) Vh, sc E ak0 Vk0, sc E ak1 Vk1, sc E ak2 Vk2, sc E ak3 Vk3, sc E ak4 Vk4, sc E ak5 Vk5, gu] 0 0 [] [] 12 := by
    intro s hf
    unfold b_X5_pass_12 at hf
    refine g_bipush (v := (-2 : Int32)) C dX5_pass_12 (by decide) ?_
    obtain rfl := Option.some.inj hf
    exact g_iret C K dX5_pass_14 (Nat.le_of_ble_eq_true rfl) (Nat.le_of_ble_eq_true rfl) ⟨rfl, rfl⟩
  unfold f_X5_pass at hf
  refine g_iload_n C dX5_pass_0 rfl 1 rfl ?_
  refine g_iconst (v := (1 : Int32)) C dX5_pass_1 (by decide) ?_
  refine g_icmp_lt (tgt := 12) C dX5_pass_2 (by decide) (fun c4 => ?_) (fun c4 => ?_)
  · have hf := (f_if hf).1 c4
    refine g_sub (lv2 := []) [] rfl ?_
    exact h12 () hf
  · have hf := (f_if hf).2 c4
    refine g_iload_n C dX5_pass_5 rfl 1 rfl ?_
    refine g_sipush (v := (999 : Int32)) C dX5_pass_6 (by decide) ?_
    refine g_icmp_le (tgt := 15) C dX5_pass_9 (by decide) (fun c5 => ?_) (fun c5 => ?_)
    · have hf := (f_if hf).1 c5
      refine g_aload_n C dX5_pass_15 rfl 0 rfl ?_
      refine g_get (Cl := RX5) (T := TX5) (N := 7) C mi_X5 0 rfl (List.mem_of_getElem? (i := 0) rfl) rfl 2 (by decide) mt_299 rfl rfl dX5_pass_16 ?_
      refine g_get (Cl := RX4) (T := TX4) (N := 18) C mi_X4 1 rfl (List.mem_of_getElem? (i := 0) rfl) rfl 10 (by decide) mt_231 rfl rfl dX5_pass_19 ?_
      refine g_ldc C mt_390 dX5_pass_22 ?_
      refine g_iload_n C dX5_pass_24 rfl 1 rfl ?_
      refine g_isub C dX5_pass_25 ?_
      refine g_icmp_le (tgt := 32) C dX5_pass_26 (by decide) (fun c6 => ?_) (fun c6 => ?_)
      · have hf := (f_if hf).1 c6
        refine g_aload_n C dX5_pass_32 rfl 0 rfl ?_
        refine g_get (Cl := RX5) (T := TX5) (N := 7) C mi_X5 0 rfl (List.mem_of_getElem? (i := 0) rfl) rfl 4 (by decide) mt_301 rfl rfl dX5_pass_33 ?_
        refine g_aload_n C dX5_pass_36 rfl 0 rfl ?_
        refine g_get (Cl := RX5) (T := TX5) (N := 7) C mi_X5 0 rfl (List.mem_of_getElem? (i := 0) rfl) rfl 2 (by decide) mt_299 rfl rfl dX5_pass_37 ?_
        obtain ⟨o7, hq8, hf⟩ := bind_s hf
        refine g_callV (As := [.ref (an 0)]) (rest := []) C k_X0_record (fun l => c_X0_record (E := E) (ah := ah) (Vh := Vh) (ak0 := ak0) (Vk0 := Vk0) (ak1 := ak1) (Vk1 := Vk1) (ak2 := ak2) (Vk2 := Vk2) (ak3 := ak3) (Vk3 := Vk3) (ak4 := ak4) (Vk4 := Vk4) (ak5 := ak5) (Vk5 := Vk5) (aw := an) (Vw := Vn) hq8 l) mt_327 [2, 3, 4, 5, 6, 7, 8, 1] rfl (by decide) ⟨_, _, _, _, List.mem_flatten.mpr ⟨_, List.mem_of_getElem? (i := 2) rfl, List.mem_of_getElem? (i := 0) rfl⟩, rfl⟩ rfl (Nat.le_of_ble_eq_true rfl) ⟨Nat.le_of_ble_eq_true rfl, Nat.le_of_ble_eq_true rfl, Nat.le_of_ble_eq_true rfl, Nat.le_of_ble_eq_true rfl⟩ dX5_pass_40 ?_
        rintro _ _ ⟨rfl, rfl⟩
        show G E X 4 [xo E ax ex0 ex1 (an 0) ex3 (ah 0) ex5 ex6, sc E an Vn, hb E ah (ak0 0) (ak1 0) (ak2 0) (ak3 0) (ak4 0) (ak5 0) o7.1, sc E ak0 o7.2.1, sc E ak1 o7.2.2.1, sc E ak2 o7.2.2.2.1, sc E ak3 o7.2.2.2.2.1, sc E ak4 o7.2.2.2.2.2.1, sc E ak5 o7.2.2.2.2.2.2, gu] 0 0 [(0, .ref (ax 0)), (1, .int p0)] [] 43
        refine g_aload_n C dX5_pass_43 rfl 0 rfl ?_
        refine g_get (Cl := RX5) (T := TX5) (N := 7) C mi_X5 0 rfl (List.mem_of_getElem? (i := 0) rfl) rfl 2 (by decide) mt_299 rfl rfl dX5_pass_44 ?_
        obtain ⟨o9, hq10, hf⟩ := bind_s hf
        refine g_callV (As := []) (rest := []) C k_X4_ruleHolds (fun l => c_X4_ruleHolds (E := E) (a := an) (V := Vn) (gx := gu) (bx := bu) (Rx := Ru) hgu hq10 l) mt_362 [1, 9] rfl (by decide) ⟨_, _, _, _, List.mem_flatten.mpr ⟨_, List.mem_of_getElem? (i := 1) rfl, List.mem_of_getElem? (i := 0) rfl⟩, rfl⟩ rfl (Nat.le_of_ble_eq_true rfl) ⟨Nat.le_of_ble_eq_true rfl, Nat.le_of_ble_eq_true rfl, Nat.le_of_ble_eq_true rfl, Nat.le_of_ble_eq_true rfl⟩ dX5_pass_47 ?_
        rintro _ _ ⟨rfl, rfl⟩
        show G E X 4 [xo E ax ex0 ex1 (an 0) ex3 (ah 0) ex5 ex6, sc E an Vn, hb E ah (ak0 0) (ak1 0) (ak2 0) (ak3 0) (ak4 0) (ak5 0) o7.1, sc E ak0 o7.2.1, sc E ak1 o7.2.2.1, sc E ak2 o7.2.2.2.1, sc E ak3 o7.2.2.2.2.1, sc E ak4 o7.2.2.2.2.2.1, sc E ak5 o7.2.2.2.2.2.2, gu] 0 0 [(0, .ref (ax 0)), (1, .int p0)] [.int o9] 50
        refine g_istore_n (lv2 := [(2, .int o9), (0, .ref (ax 0)), (1, .int p0)]) C dX5_pass_50 rfl (by decide) rfl ?_
        refine g_iconst (v := (0 : Int32)) C dX5_pass_51 (by decide) ?_
        refine g_istore_n (lv2 := [(3, .int (0 : Int32)), (2, .int o9), (0, .ref (ax 0)), (1, .int p0)]) C dX5_pass_52 rfl (by decide) rfl ?_
        refine g_sub (lv2 := [(0, .ref (ax 0)), (1, .int p0), (2, .int o9), (3, .int (0 : Int32))]) [2, 3, 1, 0] rfl ?_
        exact h53 N (Vn, o7.1, o7.2.1, o7.2.2.1, o7.2.2.2.1, o7.2.2.2.2.1, o7.2.2.2.2.2.1, o7.2.2.2.2.2.2, o9, (0 : Int32)) hf
      · have hf := (f_if hf).2 c6
        refine g_bipush (v := (-4 : Int32)) C dX5_pass_29 (by decide) ?_
        obtain rfl := Option.some.inj hf
        exact g_iret C K dX5_pass_31 (Nat.le_of_ble_eq_true rfl) (Nat.le_of_ble_eq_true rfl) ⟨rfl, rfl⟩
    · have hf := (f_if hf).2 c5
      refine g_sub (lv2 := []) [] rfl ?_
      exact h12 () hf
def b_X5_of_21 (Vn : St) (p0 : Int32) (p1 : Int32) (s : Unit) : Option (Int32) := some (-1 : Int32)
def f_X5_of (Vn : St) (p0 : Int32) (p1 : Int32) : Option (Int32) := (if p0 < 0 then b_X5_of_21 Vn p0 p1 () else (if Vn.2.2.2.2.2.2.2.1 ≤ p0 then b_X5_of_21 Vn p0 p1 () else (if p0 < (20 : Int32) then (if p1 = (0 : Int32) then (ix p0 20 (some (Vn.2.1 (Int32.toNatClampNeg p0)))) else (if p1 = (1 : Int32) then (ix p0 20 (some (Vn.2.2.1 (Int32.toNatClampNeg p0)))) else (if p1 = (2 : Int32) then (ix p0 20 (some (Vn.2.2.2.2.2.2.2.2.2.2.1 - (Vn.2.2.2.1 (Int32.toNatClampNeg p0))))) else some (-2 : Int32)))) else b_X5_of_21 Vn p0 p1 ())))
abbrev rm_X5_of : Room := { frames := 0, cells := 0, slots := 0, locals := 0 }
set_option maxRecDepth 100000 in
theorem k_X5_of : CF yX5_of cX5_of 3 (some .int) 2 := ⟨mt_430, mt_431, mt_1, mt_432, ⟨rfl, by decide +kernel, by decide +kernel, by decide +kernel⟩⟩
set_option maxHeartbeats 4000000 in
set_option maxRecDepth 100000 in
theorem c_X5_of {E : Ev} {ex0 : Nat} {ex1 : Nat} {ex3 : Nat} {ex4 : Nat} {ex5 : Nat} {ex6 : Nat} {ax : Nat → Nat} {an : Nat → Nat} {Vn : St} {p0 : Int32} {p1 : Int32} {o : Int32} (hf : f_X5_of Vn p0 p1 = some o) : ∀ l, MG l yX5_of cX5_of 3 (some .int) rm_X5_of E [.ref (ax 0), .int p0, .int p1] [xo E ax ex0 ex1 (an 0) ex3 ex4 ex5 ex6, sc E an Vn] (fun v Y => v = some (.int o) ∧ Y = [xo E ax ex0 ex1 (an 0) ex3 ex4 ex5 ex6, sc E an Vn]) := by
  refine MG.mk (own := RX5) (lv0 := [(0, .ref (ax 0)), (1, .int p0), (2, .int p1)]) (by decide) rfl (Nat.le_of_ble_eq_true rfl) rfl (fun X C K I => ?_)
  have h21 : ∀ s : Unit, b_X5_of_21 Vn p0 p1 s = some o → G E X 3 [xo E ax ex0 ex1 (an 0) ex3 ex4 ex5 ex6, sc E an Vn] 0 0 [] [] 21 := by
    intro s hf
    unfold b_X5_of_21 at hf
    refine g_iconst (v := (-1 : Int32)) C dX5_of_21 ofI_m1 ?_
    obtain rfl := Option.some.inj hf
    exact g_iret C K dX5_of_22 (Nat.le_of_ble_eq_true rfl) (Nat.le_of_ble_eq_true rfl) ⟨rfl, rfl⟩
  unfold f_X5_of at hf
  refine g_iload_n C dX5_of_0 rfl 1 rfl ?_
  refine g_if_lt (tgt := 21) C dX5_of_1 (by decide) (fun c1 => ?_) (fun c1 => ?_)
  · have hf := (f_if hf).1 c1
    refine g_sub (lv2 := []) [] rfl ?_
    exact h21 () hf
  · have hf := (f_if hf).2 c1
    refine g_iload_n C dX5_of_4 rfl 1 rfl ?_
    refine g_aload_n C dX5_of_5 rfl 0 rfl ?_
    refine g_get (Cl := RX5) (T := TX5) (N := 7) C mi_X5 0 rfl (List.mem_of_getElem? (i := 0) rfl) rfl 2 (by decide) mt_299 rfl rfl dX5_of_6 ?_
    refine g_get (Cl := RX4) (T := TX4) (N := 18) C mi_X4 1 rfl (List.mem_of_getElem? (i := 0) rfl) rfl 7 (by decide) mt_225 rfl rfl dX5_of_9 ?_
    refine g_icmp_ge (tgt := 21) C dX5_of_12 (by decide) (fun c2 => ?_) (fun c2 => ?_)
    · have hf := (f_if hf).1 c2
      refine g_sub (lv2 := []) [] rfl ?_
      exact h21 () hf
    · have hf := (f_if hf).2 c2
      refine g_iload_n C dX5_of_15 rfl 1 rfl ?_
      refine g_bipush (v := (20 : Int32)) C dX5_of_16 (by decide) ?_
      refine g_icmp_lt (tgt := 23) C dX5_of_18 (by decide) (fun c3 => ?_) (fun c3 => ?_)
      · have hf := (f_if hf).1 c3
        refine g_iload_n C dX5_of_23 rfl 2 rfl ?_
        by_cases c4 : p1 = (0 : Int32)
        · have hf := (f_if hf).1 c4
          refine g_tin (tgt := 52) C dX5_of_24 (by rw [c4] <;> decide) (by rw [c4] <;> decide) (by rw [c4] <;> rfl) (by decide) ?_
          refine g_aload_n C dX5_of_52 rfl 0 rfl ?_
          refine g_get (Cl := RX5) (T := TX5) (N := 7) C mi_X5 0 rfl (List.mem_of_getElem? (i := 0) rfl) rfl 2 (by decide) mt_299 rfl rfl dX5_of_53 ?_
          refine g_get (Cl := RX4) (T := TX4) (N := 18) C mi_X4 1 rfl (List.mem_of_getElem? (i := 0) rfl) rfl 1 (by decide) mt_213 rfl rfl dX5_of_56 ?_
          refine g_iload_n C dX5_of_59 rfl 1 rfl ?_
          obtain ⟨i5, hf⟩ := ix_s hf
          refine g_iald C 1 rfl (List.mem_of_getElem? (i := 2) rfl) i5 dX5_of_60 ?_
          obtain rfl := Option.some.inj hf
          exact g_iret C K dX5_of_61 (Nat.le_of_ble_eq_true rfl) (Nat.le_of_ble_eq_true rfl) ⟨rfl, rfl⟩
        have hf := (f_if hf).2 c4
        by_cases c6 : p1 = (1 : Int32)
        · have hf := (f_if hf).1 c6
          refine g_tin (tgt := 62) C dX5_of_24 (by rw [c6] <;> decide) (by rw [c6] <;> decide) (by rw [c6] <;> rfl) (by decide) ?_
          refine g_aload_n C dX5_of_62 rfl 0 rfl ?_
          refine g_get (Cl := RX5) (T := TX5) (N := 7) C mi_X5 0 rfl (List.mem_of_getElem? (i := 0) rfl) rfl 2 (by decide) mt_299 rfl rfl dX5_of_63 ?_
          refine g_get (Cl := RX4) (T := TX4) (N := 18) C mi_X4 1 rfl (List.mem_of_getElem? (i := 0) rfl) rfl 2 (by decide) mt_215 rfl rfl dX5_of_66 ?_
          refine g_iload_n C dX5_of_69 rfl 1 rfl ?_
          obtain ⟨i7, hf⟩ := ix_s hf
          refine g_iald C 1 rfl (List.mem_of_getElem? (i := 3) rfl) i7 dX5_of_70 ?_
          obtain rfl := Option.some.inj hf
          exact g_iret C K dX5_of_71 (Nat.le_of_ble_eq_true rfl) (Nat.le_of_ble_eq_true rfl) ⟨rfl, rfl⟩
        have hf := (f_if hf).2 c6
        by_cases c8 : p1 = (2 : Int32)
        · have hf := (f_if hf).1 c8
          refine g_tin (tgt := 72) C dX5_of_24 (by rw [c8] <;> decide) (by rw [c8] <;> decide) (by rw [c8] <;> rfl) (by decide) ?_
          refine g_aload_n C dX5_of_72 rfl 0 rfl ?_
          refine g_get (Cl := RX5) (T := TX5) (N := 7) C mi_X5 0 rfl (List.mem_of_getElem? (i := 0) rfl) rfl 2 (by decide) mt_299 rfl rfl dX5_of_73 ?_
          refine g_get (Cl := RX4) (T := TX4) (N := 18) C mi_X4 1 rfl (List.mem_of_getElem? (i := 0) rfl) rfl 10 (by decide) mt_231 rfl rfl dX5_of_76 ?_
          refine g_aload_n C dX5_of_79 rfl 0 rfl ?_
          refine g_get (Cl := RX5) (T := TX5) (N := 7) C mi_X5 0 rfl (List.mem_of_getElem? (i := 0) rfl) rfl 2 (by decide) mt_299 rfl rfl dX5_of_80 ?_
          refine g_get (Cl := RX4) (T := TX4) (N := 18) C mi_X4 1 rfl (List.mem_of_getElem? (i := 0) rfl) rfl 3 (by decide) mt_217 rfl rfl dX5_of_83 ?_
          refine g_iload_n C dX5_of_86 rfl 1 rfl ?_
          obtain ⟨i9, hf⟩ := ix_s hf
          refine g_iald C 1 rfl (List.mem_of_getElem? (i := 4) rfl) i9 dX5_of_87 ?_
          refine g_isub C dX5_of_88 ?_
          obtain rfl := Option.some.inj hf
          exact g_iret C K dX5_of_89 (Nat.le_of_ble_eq_true rfl) (Nat.le_of_ble_eq_true rfl) ⟨rfl, rfl⟩
        have hf := (f_if hf).2 c8
        refine g_tout (tgt := 90) C dX5_of_24 (by have ec4 := ne_ti (a := 0) c4 rfl; have ec6 := ne_ti (a := 1) c6 rfl; have ec8 := ne_ti (a := 2) c8 rfl; omega) (by decide) ?_
        refine g_bipush (v := (-2 : Int32)) C dX5_of_90 (by decide) ?_
        obtain rfl := Option.some.inj hf
        exact g_iret C K dX5_of_92 (Nat.le_of_ble_eq_true rfl) (Nat.le_of_ble_eq_true rfl) ⟨rfl, rfl⟩
      · have hf := (f_if hf).2 c3
        refine g_sub (lv2 := []) [] rfl ?_
        exact h21 () hf
def b_X5_ofSpot_9 (Vn : St) (p0 : Int32) (p1 : Int32) (s : Unit) : Option (Int32) := some (-1 : Int32)
def f_X5_ofSpot (Vn : St) (p0 : Int32) (p1 : Int32) : Option (Int32) := (if p0 < 0 then b_X5_ofSpot_9 Vn p0 p1 () else (if p0 < (4 : Int32) then (if p1 = (0 : Int32) then ((f_X4_complains Vn p0 (0 : Int32)).bind fun o4 => some o4) else (if p1 = (1 : Int32) then ((f_X4_complains Vn p0 (1 : Int32)).bind fun o7 => some o7) else (if p1 = (2 : Int32) then (ix p0 4 (some (Vn.2.2.2.2.1 (Int32.toNatClampNeg p0)))) else some (-2 : Int32)))) else b_X5_ofSpot_9 Vn p0 p1 ()))
abbrev rm_X5_ofSpot : Room := { frames := 1, cells := 0, slots := 0, locals := 22 }
set_option maxRecDepth 100000 in
theorem k_X5_ofSpot : CF yX5_ofSpot cX5_ofSpot 3 (some .int) 2 := ⟨mt_434, mt_435, mt_1, mt_436, ⟨rfl, by decide +kernel, by decide +kernel, by decide +kernel⟩⟩
set_option maxHeartbeats 4000000 in
set_option maxRecDepth 100000 in
theorem c_X5_ofSpot {E : Ev} {ex0 : Nat} {ex1 : Nat} {ex3 : Nat} {ex4 : Nat} {ex5 : Nat} {ex6 : Nat} {ax : Nat → Nat} {an : Nat → Nat} {Vn : St} {p0 : Int32} {p1 : Int32} {o : Int32} (hf : f_X5_ofSpot Vn p0 p1 = some o) : ∀ l, MG l yX5_ofSpot cX5_ofSpot 3 (some .int) rm_X5_ofSpot E [.ref (ax 0), .int p0, .int p1] [xo E ax ex0 ex1 (an 0) ex3 ex4 ex5 ex6, sc E an Vn] (fun v Y => v = some (.int o) ∧ Y = [xo E ax ex0 ex1 (an 0) ex3 ex4 ex5 ex6, sc E an Vn]) := by
  refine MG.mk (own := RX5) (lv0 := [(0, .ref (ax 0)), (1, .int p0), (2, .int p1)]) (by decide) rfl (Nat.le_of_ble_eq_true rfl) rfl (fun X C K I => ?_)
  have h9 : ∀ s : Unit, b_X5_ofSpot_9 Vn p0 p1 s = some o → G E X 3 [xo E ax ex0 ex1 (an 0) ex3 ex4 ex5 ex6, sc E an Vn] 0 0 [] [] 9 := by
    intro s hf
    unfold b_X5_ofSpot_9 at hf
    refine g_iconst (v := (-1 : Int32)) C dX5_ofSpot_9 ofI_m1 ?_
    obtain rfl := Option.some.inj hf
    exact g_iret C K dX5_ofSpot_10 (Nat.le_of_ble_eq_true rfl) (Nat.le_of_ble_eq_true rfl) ⟨rfl, rfl⟩
  unfold f_X5_ofSpot at hf
  refine g_iload_n C dX5_ofSpot_0 rfl 1 rfl ?_
  refine g_if_lt (tgt := 9) C dX5_ofSpot_1 (by decide) (fun c1 => ?_) (fun c1 => ?_)
  · have hf := (f_if hf).1 c1
    refine g_sub (lv2 := []) [] rfl ?_
    exact h9 () hf
  · have hf := (f_if hf).2 c1
    refine g_iload_n C dX5_ofSpot_4 rfl 1 rfl ?_
    refine g_iconst (v := (4 : Int32)) C dX5_ofSpot_5 (by decide) ?_
    refine g_icmp_lt (tgt := 11) C dX5_ofSpot_6 (by decide) (fun c2 => ?_) (fun c2 => ?_)
    · have hf := (f_if hf).1 c2
      refine g_iload_n C dX5_ofSpot_11 rfl 2 rfl ?_
      by_cases c3 : p1 = (0 : Int32)
      · have hf := (f_if hf).1 c3
        refine g_tin (tgt := 40) C dX5_ofSpot_12 (by rw [c3] <;> decide) (by rw [c3] <;> decide) (by rw [c3] <;> rfl) (by decide) ?_
        refine g_aload_n C dX5_ofSpot_40 rfl 0 rfl ?_
        refine g_get (Cl := RX5) (T := TX5) (N := 7) C mi_X5 0 rfl (List.mem_of_getElem? (i := 0) rfl) rfl 2 (by decide) mt_299 rfl rfl dX5_ofSpot_41 ?_
        refine g_iload_n C dX5_ofSpot_44 rfl 1 rfl ?_
        refine g_iconst (v := (0 : Int32)) C dX5_ofSpot_45 (by decide) ?_
        obtain ⟨o4, hq5, hf⟩ := bind_s hf
        refine g_callV (As := [.int p0, .int (0 : Int32)]) (rest := []) C k_X4_complains (fun l => c_X4_complains (E := E) (a := an) (V := Vn) hq5 l) mt_350 [1] rfl (by decide) ⟨_, _, _, _, List.mem_flatten.mpr ⟨_, List.mem_of_getElem? (i := 1) rfl, List.mem_of_getElem? (i := 0) rfl⟩, rfl⟩ rfl (Nat.le_of_ble_eq_true rfl) ⟨Nat.le_of_ble_eq_true rfl, Nat.le_of_ble_eq_true rfl, Nat.le_of_ble_eq_true rfl, Nat.le_of_ble_eq_true rfl⟩ dX5_ofSpot_46 ?_
        rintro _ _ ⟨rfl, rfl⟩
        show G E X 3 [xo E ax ex0 ex1 (an 0) ex3 ex4 ex5 ex6, sc E an Vn] 0 0 [(0, .ref (ax 0)), (1, .int p0), (2, .int p1)] [.int o4] 49
        obtain rfl := Option.some.inj hf
        exact g_iret C K dX5_ofSpot_49 (Nat.le_of_ble_eq_true rfl) (Nat.le_of_ble_eq_true rfl) ⟨rfl, rfl⟩
      have hf := (f_if hf).2 c3
      by_cases c6 : p1 = (1 : Int32)
      · have hf := (f_if hf).1 c6
        refine g_tin (tgt := 50) C dX5_ofSpot_12 (by rw [c6] <;> decide) (by rw [c6] <;> decide) (by rw [c6] <;> rfl) (by decide) ?_
        refine g_aload_n C dX5_ofSpot_50 rfl 0 rfl ?_
        refine g_get (Cl := RX5) (T := TX5) (N := 7) C mi_X5 0 rfl (List.mem_of_getElem? (i := 0) rfl) rfl 2 (by decide) mt_299 rfl rfl dX5_ofSpot_51 ?_
        refine g_iload_n C dX5_ofSpot_54 rfl 1 rfl ?_
        refine g_iconst (v := (1 : Int32)) C dX5_ofSpot_55 (by decide) ?_
        obtain ⟨o7, hq8, hf⟩ := bind_s hf
        refine g_callV (As := [.int p0, .int (1 : Int32)]) (rest := []) C k_X4_complains (fun l => c_X4_complains (E := E) (a := an) (V := Vn) hq8 l) mt_350 [1] rfl (by decide) ⟨_, _, _, _, List.mem_flatten.mpr ⟨_, List.mem_of_getElem? (i := 1) rfl, List.mem_of_getElem? (i := 0) rfl⟩, rfl⟩ rfl (Nat.le_of_ble_eq_true rfl) ⟨Nat.le_of_ble_eq_true rfl, Nat.le_of_ble_eq_true rfl, Nat.le_of_ble_eq_true rfl, Nat.le_of_ble_eq_true rfl⟩ dX5_ofSpot_56 ?_
        rintro _ _ ⟨rfl, rfl⟩
        show G E X 3 [xo E ax ex0 ex1 (an 0) ex3 ex4 ex5 ex6, sc E an Vn] 0 0 [(0, .ref (ax 0)), (1, .int p0), (2, .int p1)] [.int o7] 59
        obtain rfl := Option.some.inj hf
        exact g_iret C K dX5_ofSpot_59 (Nat.le_of_ble_eq_true rfl) (Nat.le_of_ble_eq_true rfl) ⟨rfl, rfl⟩
      have hf := (f_if hf).2 c6
      by_cases c9 : p1 = (2 : Int32)
      · have hf := (f_if hf).1 c9
        refine g_tin (tgt := 60) C dX5_ofSpot_12 (by rw [c9] <;> decide) (by rw [c9] <;> decide) (by rw [c9] <;> rfl) (by decide) ?_
        refine g_aload_n C dX5_ofSpot_60 rfl 0 rfl ?_
        refine g_get (Cl := RX5) (T := TX5) (N := 7) C mi_X5 0 rfl (List.mem_of_getElem? (i := 0) rfl) rfl 2 (by decide) mt_299 rfl rfl dX5_ofSpot_61 ?_
        refine g_get (Cl := RX4) (T := TX4) (N := 18) C mi_X4 1 rfl (List.mem_of_getElem? (i := 0) rfl) rfl 4 (by decide) mt_219 rfl rfl dX5_ofSpot_64 ?_
        refine g_iload_n C dX5_ofSpot_67 rfl 1 rfl ?_
        obtain ⟨i10, hf⟩ := ix_s hf
        refine g_iald C 1 rfl (List.mem_of_getElem? (i := 5) rfl) i10 dX5_ofSpot_68 ?_
        obtain rfl := Option.some.inj hf
        exact g_iret C K dX5_ofSpot_69 (Nat.le_of_ble_eq_true rfl) (Nat.le_of_ble_eq_true rfl) ⟨rfl, rfl⟩
      have hf := (f_if hf).2 c9
      refine g_tout (tgt := 70) C dX5_ofSpot_12 (by have ec3 := ne_ti (a := 0) c3 rfl; have ec6 := ne_ti (a := 1) c6 rfl; have ec9 := ne_ti (a := 2) c9 rfl; omega) (by decide) ?_
      refine g_bipush (v := (-2 : Int32)) C dX5_ofSpot_70 (by decide) ?_
      obtain rfl := Option.some.inj hf
      exact g_iret C K dX5_ofSpot_72 (Nat.le_of_ble_eq_true rfl) (Nat.le_of_ble_eq_true rfl) ⟨rfl, rfl⟩
    · have hf := (f_if hf).2 c2
      refine g_sub (lv2 := []) [] rfl ?_
      exact h9 () hf
def b_X5_ofStop_32 (Vn : St) (p0 : Int32) (p1 : Int32) (s : Unit) : Option (Int32) := some (-2 : Int32)
def b_X5_ofStop_21 (Vn : St) (p0 : Int32) (p1 : Int32) (s : Unit) : Option (Int32) := some (-1 : Int32)
def f_X5_ofStop (Vn : St) (p0 : Int32) (p1 : Int32) : Option (Int32) := (if p0 < 0 then b_X5_ofStop_21 Vn p0 p1 () else (if Vn.2.2.2.2.2.2.2.2.2.2.2.2.2.2.1 ≤ p0 then b_X5_ofStop_21 Vn p0 p1 () else (if p0 < (6 : Int32) then (if p1 < 0 then b_X5_ofStop_32 Vn p0 p1 () else (if p1 < (5 : Int32) then (ix ((p0 * (5 : Int32)) + p1) 30 (some (Vn.2.2.2.2.2.1 (Int32.toNatClampNeg ((p0 * (5 : Int32)) + p1))))) else b_X5_ofStop_32 Vn p0 p1 ())) else b_X5_ofStop_21 Vn p0 p1 ())))
abbrev rm_X5_ofStop : Room := { frames := 0, cells := 0, slots := 0, locals := 0 }
set_option maxRecDepth 100000 in
theorem k_X5_ofStop : CF yX5_ofStop cX5_ofStop 3 (some .int) 2 := ⟨mt_610, mt_611, mt_1, mt_612, ⟨rfl, by decide +kernel, by decide +kernel, by decide +kernel⟩⟩
set_option maxHeartbeats 4000000 in
set_option maxRecDepth 100000 in
theorem c_X5_ofStop {E : Ev} {ex0 : Nat} {ex1 : Nat} {ex3 : Nat} {ex4 : Nat} {ex5 : Nat} {ex6 : Nat} {ax : Nat → Nat} {an : Nat → Nat} {Vn : St} {p0 : Int32} {p1 : Int32} {o : Int32} (hf : f_X5_ofStop Vn p0 p1 = some o) : ∀ l, MG l yX5_ofStop cX5_ofStop 3 (some .int) rm_X5_ofStop E [.ref (ax 0), .int p0, .int p1] [xo E ax ex0 ex1 (an 0) ex3 ex4 ex5 ex6, sc E an Vn] (fun v Y => v = some (.int o) ∧ Y = [xo E ax ex0 ex1 (an 0) ex3 ex4 ex5 ex6, sc E an Vn]) := by
  refine MG.mk (own := RX5) (lv0 := [(0, .ref (ax 0)), (1, .int p0), (2, .int p1)]) (by decide) rfl (Nat.le_of_ble_eq_true rfl) rfl (fun X C K I => ?_)
  have h32 : ∀ s : Unit, b_X5_ofStop_32 Vn p0 p1 s = some o → G E X 3 [xo E ax ex0 ex1 (an 0) ex3 ex4 ex5 ex6, sc E an Vn] 0 0 [] [] 32 := by
    intro s hf
    unfold b_X5_ofStop_32 at hf
    refine g_bipush (v := (-2 : Int32)) C dX5_ofStop_32 (by decide) ?_
    obtain rfl := Option.some.inj hf
    exact g_iret C K dX5_ofStop_34 (Nat.le_of_ble_eq_true rfl) (Nat.le_of_ble_eq_true rfl) ⟨rfl, rfl⟩
  have h21 : ∀ s : Unit, b_X5_ofStop_21 Vn p0 p1 s = some o → G E X 3 [xo E ax ex0 ex1 (an 0) ex3 ex4 ex5 ex6, sc E an Vn] 0 0 [] [] 21 := by
    intro s hf
    unfold b_X5_ofStop_21 at hf
    refine g_iconst (v := (-1 : Int32)) C dX5_ofStop_21 ofI_m1 ?_
    obtain rfl := Option.some.inj hf
    exact g_iret C K dX5_ofStop_22 (Nat.le_of_ble_eq_true rfl) (Nat.le_of_ble_eq_true rfl) ⟨rfl, rfl⟩
  unfold f_X5_ofStop at hf
  refine g_iload_n C dX5_ofStop_0 rfl 1 rfl ?_
  refine g_if_lt (tgt := 21) C dX5_ofStop_1 (by decide) (fun c1 => ?_) (fun c1 => ?_)
  · have hf := (f_if hf).1 c1
    refine g_sub (lv2 := []) [] rfl ?_
    exact h21 () hf
  · have hf := (f_if hf).2 c1
    refine g_iload_n C dX5_ofStop_4 rfl 1 rfl ?_
    refine g_aload_n C dX5_ofStop_5 rfl 0 rfl ?_
    refine g_get (Cl := RX5) (T := TX5) (N := 7) C mi_X5 0 rfl (List.mem_of_getElem? (i := 0) rfl) rfl 2 (by decide) mt_299 rfl rfl dX5_ofStop_6 ?_
    refine g_get (Cl := RX4) (T := TX4) (N := 18) C mi_X4 1 rfl (List.mem_of_getElem? (i := 0) rfl) rfl 14 (by decide) mt_237 rfl rfl dX5_ofStop_9 ?_
    refine g_icmp_ge (tgt := 21) C dX5_ofStop_12 (by decide) (fun c2 => ?_) (fun c2 => ?_)
    · have hf := (f_if hf).1 c2
      refine g_sub (lv2 := []) [] rfl ?_
      exact h21 () hf
    · have hf := (f_if hf).2 c2
      refine g_iload_n C dX5_ofStop_15 rfl 1 rfl ?_
      refine g_bipush (v := (6 : Int32)) C dX5_ofStop_16 (by decide) ?_
      refine g_icmp_lt (tgt := 23) C dX5_ofStop_18 (by decide) (fun c3 => ?_) (fun c3 => ?_)
      · have hf := (f_if hf).1 c3
        refine g_iload_n C dX5_ofStop_23 rfl 2 rfl ?_
        refine g_if_lt (tgt := 32) C dX5_ofStop_24 (by decide) (fun c4 => ?_) (fun c4 => ?_)
        · have hf := (f_if hf).1 c4
          refine g_sub (lv2 := []) [] rfl ?_
          exact h32 () hf
        · have hf := (f_if hf).2 c4
          refine g_iload_n C dX5_ofStop_27 rfl 2 rfl ?_
          refine g_iconst (v := (5 : Int32)) C dX5_ofStop_28 (by decide) ?_
          refine g_icmp_lt (tgt := 35) C dX5_ofStop_29 (by decide) (fun c5 => ?_) (fun c5 => ?_)
          · have hf := (f_if hf).1 c5
            refine g_aload_n C dX5_ofStop_35 rfl 0 rfl ?_
            refine g_get (Cl := RX5) (T := TX5) (N := 7) C mi_X5 0 rfl (List.mem_of_getElem? (i := 0) rfl) rfl 2 (by decide) mt_299 rfl rfl dX5_ofStop_36 ?_
            refine g_get (Cl := RX4) (T := TX4) (N := 18) C mi_X4 1 rfl (List.mem_of_getElem? (i := 0) rfl) rfl 5 (by decide) mt_221 rfl rfl dX5_ofStop_39 ?_
            refine g_iload_n C dX5_ofStop_42 rfl 1 rfl ?_
            refine g_iconst (v := (5 : Int32)) C dX5_ofStop_43 (by decide) ?_
            refine g_imul C dX5_ofStop_44 ?_
            refine g_iload_n C dX5_ofStop_45 rfl 2 rfl ?_
            refine g_iadd C dX5_ofStop_46 ?_
            obtain ⟨i6, hf⟩ := ix_s hf
            refine g_iald C 1 rfl (List.mem_of_getElem? (i := 6) rfl) i6 dX5_ofStop_47 ?_
            obtain rfl := Option.some.inj hf
            exact g_iret C K dX5_ofStop_48 (Nat.le_of_ble_eq_true rfl) (Nat.le_of_ble_eq_true rfl) ⟨rfl, rfl⟩
          · have hf := (f_if hf).2 c5
            refine g_sub (lv2 := []) [] rfl ?_
            exact h32 () hf
      · have hf := (f_if hf).2 c3
        refine g_sub (lv2 := []) [] rfl ?_
        exact h21 () hf
def b_X5_rule_73 (N : Nat) (Vn : St) (Ru : Ru) (p0 : Int32) (s : Int32) : Option (Int32) := some s
def f_X5_rule (N : Nat) (Vn : St) (Ru : Ru) (p0 : Int32) : Option (Int32) := (if p0 = (0 : Int32) then some Ru.2.2.2.2.1 else (if p0 = (1 : Int32) then ((f_X3_depth Ru).bind fun o3 => some o3) else (if p0 = (2 : Int32) then ((f_X4_ruleHolds N Vn Ru).bind fun o6 => (if o6 = 0 then b_X5_rule_73 N Vn Ru p0 (0 : Int32) else b_X5_rule_73 N Vn Ru p0 (1 : Int32))) else (if p0 = (3 : Int32) then some Ru.2.2.2.2.2 else (if p0 = (4 : Int32) then ((f_X3_lookedAt N Ru Vn.2.2.2.2.2.2.2.2.1).bind fun o11 => some o11) else some (-2 : Int32))))))
abbrev rm_X5_rule : Room := { frames := 5, cells := 0, slots := 0, locals := 115 }
set_option maxRecDepth 100000 in
theorem k_X5_rule : CF yX5_rule cX5_rule 2 (some .int) 1 := ⟨mt_438, mt_439, mt_1, mt_440, ⟨rfl, by decide +kernel, by decide +kernel, by decide +kernel⟩⟩
set_option maxHeartbeats 4000000 in
set_option maxRecDepth 100000 in
theorem c_X5_rule {E : Ev} {ex0 : Nat} {ex1 : Nat} {ex3 : Nat} {ex4 : Nat} {ex5 : Nat} {ex6 : Nat} {ax : Nat → Nat} {an : Nat → Nat} {Vn : St} {gu : va_W} {bu : Nat → Nat} {Ru : Ru} (hgu : ∀ c ∈ ru E Vn.2.2.2.2.2.2.1 bu Ru, c ∈ gu) {p0 : Int32} {N : Nat} {o : Int32} (hf : f_X5_rule N Vn Ru p0 = some o) : ∀ l, MG l yX5_rule cX5_rule 2 (some .int) rm_X5_rule E [.ref (ax 0), .int p0] [xo E ax ex0 ex1 (an 0) ex3 ex4 ex5 ex6, sc E an Vn, gu] (fun v Y => v = some (.int o) ∧ Y = [xo E ax ex0 ex1 (an 0) ex3 ex4 ex5 ex6, sc E an Vn, gu]) := by
  refine MG.mk (own := RX5) (lv0 := [(0, .ref (ax 0)), (1, .int p0)]) (by decide) rfl (Nat.le_of_ble_eq_true rfl) rfl (fun X C K I => ?_)
  have h73 : ∀ s : Int32, b_X5_rule_73 N Vn Ru p0 s = some o → G E X 2 [xo E ax ex0 ex1 (an 0) ex3 ex4 ex5 ex6, sc E an Vn, gu] 0 0 [] [.int s] 73 := by
    intro s hf
    unfold b_X5_rule_73 at hf
    obtain rfl := Option.some.inj hf
    exact g_iret C K dX5_rule_73 (Nat.le_of_ble_eq_true rfl) (Nat.le_of_ble_eq_true rfl) ⟨rfl, rfl⟩
  unfold f_X5_rule at hf
  refine g_iload_n C dX5_rule_0 rfl 1 rfl ?_
  by_cases c1 : p0 = (0 : Int32)
  · have hf := (f_if hf).1 c1
    refine g_tin (tgt := 36) C dX5_rule_1 (by rw [c1] <;> decide) (by rw [c1] <;> decide) (by rw [c1] <;> rfl) (by decide) ?_
    refine g_aload_n C dX5_rule_36 rfl 0 rfl ?_
    refine g_get (Cl := RX5) (T := TX5) (N := 7) C mi_X5 0 rfl (List.mem_of_getElem? (i := 0) rfl) rfl 2 (by decide) mt_299 rfl rfl dX5_rule_37 ?_
    refine g_get (Cl := RX4) (T := TX4) (N := 18) C mi_X4 1 rfl (List.mem_of_getElem? (i := 0) rfl) rfl 6 (by decide) mt_223 rfl rfl dX5_rule_40 ?_
    refine g_get (Cl := RX3) (T := TX3) (N := 6) C mi_X3 2 rfl (hgu _ (List.mem_of_getElem? (l := ru E Vn.2.2.2.2.2.2.1 bu Ru) (i := 0) rfl)) rfl 4 (by decide) mt_130 rfl rfl dX5_rule_43 ?_
    obtain rfl := Option.some.inj hf
    exact g_iret C K dX5_rule_46 (Nat.le_of_ble_eq_true rfl) (Nat.le_of_ble_eq_true rfl) ⟨rfl, rfl⟩
  have hf := (f_if hf).2 c1
  by_cases c2 : p0 = (1 : Int32)
  · have hf := (f_if hf).1 c2
    refine g_tin (tgt := 47) C dX5_rule_1 (by rw [c2] <;> decide) (by rw [c2] <;> decide) (by rw [c2] <;> rfl) (by decide) ?_
    refine g_aload_n C dX5_rule_47 rfl 0 rfl ?_
    refine g_get (Cl := RX5) (T := TX5) (N := 7) C mi_X5 0 rfl (List.mem_of_getElem? (i := 0) rfl) rfl 2 (by decide) mt_299 rfl rfl dX5_rule_48 ?_
    refine g_get (Cl := RX4) (T := TX4) (N := 18) C mi_X4 1 rfl (List.mem_of_getElem? (i := 0) rfl) rfl 6 (by decide) mt_223 rfl rfl dX5_rule_51 ?_
    obtain ⟨o3, hq4, hf⟩ := bind_s hf
    refine g_callV (As := []) (rest := []) C k_X3_depth (fun l => c_X3_depth (E := E) (g := gu) (r := Vn.2.2.2.2.2.2.1) (b := bu) (R := Ru) hgu hq4 l) mt_441 [2] rfl (by decide) ⟨_, _, _, _, List.mem_flatten.mpr ⟨_, List.mem_of_getElem? (i := 2) rfl, hgu _ (List.mem_of_getElem? (l := ru E Vn.2.2.2.2.2.2.1 bu Ru) (i := 0) rfl)⟩, rfl⟩ rfl (Nat.le_of_ble_eq_true rfl) ⟨Nat.le_of_ble_eq_true rfl, Nat.le_of_ble_eq_true rfl, Nat.le_of_ble_eq_true rfl, Nat.le_of_ble_eq_true rfl⟩ dX5_rule_54 ?_
    rintro _ _ ⟨rfl, rfl⟩
    show G E X 2 [xo E ax ex0 ex1 (an 0) ex3 ex4 ex5 ex6, sc E an Vn, gu] 0 0 [(0, .ref (ax 0)), (1, .int p0)] [.int o3] 57
    obtain rfl := Option.some.inj hf
    exact g_iret C K dX5_rule_57 (Nat.le_of_ble_eq_true rfl) (Nat.le_of_ble_eq_true rfl) ⟨rfl, rfl⟩
  have hf := (f_if hf).2 c2
  by_cases c5 : p0 = (2 : Int32)
  · have hf := (f_if hf).1 c5
    refine g_tin (tgt := 58) C dX5_rule_1 (by rw [c5] <;> decide) (by rw [c5] <;> decide) (by rw [c5] <;> rfl) (by decide) ?_
    refine g_aload_n C dX5_rule_58 rfl 0 rfl ?_
    refine g_get (Cl := RX5) (T := TX5) (N := 7) C mi_X5 0 rfl (List.mem_of_getElem? (i := 0) rfl) rfl 2 (by decide) mt_299 rfl rfl dX5_rule_59 ?_
    obtain ⟨o6, hq7, hf⟩ := bind_s hf
    refine g_callV (As := []) (rest := []) C k_X4_ruleHolds (fun l => c_X4_ruleHolds (E := E) (a := an) (V := Vn) (gx := gu) (bx := bu) (Rx := Ru) hgu hq7 l) mt_362 [1, 2] rfl (by decide) ⟨_, _, _, _, List.mem_flatten.mpr ⟨_, List.mem_of_getElem? (i := 1) rfl, List.mem_of_getElem? (i := 0) rfl⟩, rfl⟩ rfl (Nat.le_of_ble_eq_true rfl) ⟨Nat.le_of_ble_eq_true rfl, Nat.le_of_ble_eq_true rfl, Nat.le_of_ble_eq_true rfl, Nat.le_of_ble_eq_true rfl⟩ dX5_rule_62 ?_
    rintro _ _ ⟨rfl, rfl⟩
    show G E X 2 [xo E ax ex0 ex1 (an 0) ex3 ex4 ex5 ex6, sc E an Vn, gu] 0 0 [(0, .ref (ax 0)), (1, .int p0)] [.int o6] 65
    refine g_if_eq (tgt := 72) C dX5_rule_65 (by decide) (fun c8 => ?_) (fun c8 => ?_)
    · have hf := (f_if hf).1 c8
      refine g_iconst (v := (0 : Int32)) C dX5_rule_72 (by decide) ?_
      refine g_sub (lv2 := []) [] rfl ?_
      exact h73 (0 : Int32) hf
    · have hf := (f_if hf).2 c8
      refine g_iconst (v := (1 : Int32)) C dX5_rule_68 (by decide) ?_
      refine g_goto (tgt := 73) C dX5_rule_69 (by decide) ?_
      refine g_sub (lv2 := []) [] rfl ?_
      exact h73 (1 : Int32) hf
  have hf := (f_if hf).2 c5
  by_cases c9 : p0 = (3 : Int32)
  · have hf := (f_if hf).1 c9
    refine g_tin (tgt := 74) C dX5_rule_1 (by rw [c9] <;> decide) (by rw [c9] <;> decide) (by rw [c9] <;> rfl) (by decide) ?_
    refine g_aload_n C dX5_rule_74 rfl 0 rfl ?_
    refine g_get (Cl := RX5) (T := TX5) (N := 7) C mi_X5 0 rfl (List.mem_of_getElem? (i := 0) rfl) rfl 2 (by decide) mt_299 rfl rfl dX5_rule_75 ?_
    refine g_get (Cl := RX4) (T := TX4) (N := 18) C mi_X4 1 rfl (List.mem_of_getElem? (i := 0) rfl) rfl 6 (by decide) mt_223 rfl rfl dX5_rule_78 ?_
    refine g_get (Cl := RX3) (T := TX3) (N := 6) C mi_X3 2 rfl (hgu _ (List.mem_of_getElem? (l := ru E Vn.2.2.2.2.2.2.1 bu Ru) (i := 0) rfl)) rfl 5 (by decide) mt_132 rfl rfl dX5_rule_81 ?_
    obtain rfl := Option.some.inj hf
    exact g_iret C K dX5_rule_84 (Nat.le_of_ble_eq_true rfl) (Nat.le_of_ble_eq_true rfl) ⟨rfl, rfl⟩
  have hf := (f_if hf).2 c9
  by_cases c10 : p0 = (4 : Int32)
  · have hf := (f_if hf).1 c10
    refine g_tin (tgt := 85) C dX5_rule_1 (by rw [c10] <;> decide) (by rw [c10] <;> decide) (by rw [c10] <;> rfl) (by decide) ?_
    refine g_aload_n C dX5_rule_85 rfl 0 rfl ?_
    refine g_get (Cl := RX5) (T := TX5) (N := 7) C mi_X5 0 rfl (List.mem_of_getElem? (i := 0) rfl) rfl 2 (by decide) mt_299 rfl rfl dX5_rule_86 ?_
    refine g_get (Cl := RX4) (T := TX4) (N := 18) C mi_X4 1 rfl (List.mem_of_getElem? (i := 0) rfl) rfl 6 (by decide) mt_223 rfl rfl dX5_rule_89 ?_
    refine g_aload_n C dX5_rule_92 rfl 0 rfl ?_
    refine g_get (Cl := RX5) (T := TX5) (N := 7) C mi_X5 0 rfl (List.mem_of_getElem? (i := 0) rfl) rfl 2 (by decide) mt_299 rfl rfl dX5_rule_93 ?_
    refine g_get (Cl := RX4) (T := TX4) (N := 18) C mi_X4 1 rfl (List.mem_of_getElem? (i := 0) rfl) rfl 8 (by decide) mt_227 rfl rfl dX5_rule_96 ?_
    obtain ⟨o11, hq12, hf⟩ := bind_s hf
    refine g_callV (As := [.int Vn.2.2.2.2.2.2.2.2.1]) (rest := []) C k_X3_lookedAt (fun l => c_X3_lookedAt (E := E) (g := gu) (r := Vn.2.2.2.2.2.2.1) (b := bu) (R := Ru) hgu hq12 l) mt_445 [2] rfl (by decide) ⟨_, _, _, _, List.mem_flatten.mpr ⟨_, List.mem_of_getElem? (i := 2) rfl, hgu _ (List.mem_of_getElem? (l := ru E Vn.2.2.2.2.2.2.1 bu Ru) (i := 0) rfl)⟩, rfl⟩ rfl (Nat.le_of_ble_eq_true rfl) ⟨Nat.le_of_ble_eq_true rfl, Nat.le_of_ble_eq_true rfl, Nat.le_of_ble_eq_true rfl, Nat.le_of_ble_eq_true rfl⟩ dX5_rule_99 ?_
    rintro _ _ ⟨rfl, rfl⟩
    show G E X 2 [xo E ax ex0 ex1 (an 0) ex3 ex4 ex5 ex6, sc E an Vn, gu] 0 0 [(0, .ref (ax 0)), (1, .int p0)] [.int o11] 102
    obtain rfl := Option.some.inj hf
    exact g_iret C K dX5_rule_102 (Nat.le_of_ble_eq_true rfl) (Nat.le_of_ble_eq_true rfl) ⟨rfl, rfl⟩
  have hf := (f_if hf).2 c10
  refine g_tout (tgt := 103) C dX5_rule_1 (by have ec1 := ne_ti (a := 0) c1 rfl; have ec2 := ne_ti (a := 1) c2 rfl; have ec5 := ne_ti (a := 2) c5 rfl; have ec9 := ne_ti (a := 3) c9 rfl; have ec10 := ne_ti (a := 4) c10 rfl; omega) (by decide) ?_
  refine g_bipush (v := (-2 : Int32)) C dX5_rule_103 (by decide) ?_
  obtain rfl := Option.some.inj hf
  exact g_iret C K dX5_rule_105 (Nat.le_of_ble_eq_true rfl) (Nat.le_of_ble_eq_true rfl) ⟨rfl, rfl⟩
def f_X5_count (N : Nat) (Vp : Pd) (Vn : St) (Vh : Hb) (Vk0 : St) (Vk1 : St) (Vk2 : St) (Vk3 : St) (Vk4 : St) (Vk5 : St) (p0 : Int32) : Option (Int32) := (if p0 = (18 : Int32) then some Vp.2 else (if p0 = (19 : Int32) then some Vh.2 else ((f_X4_number N Vn p0).bind fun o3 => some o3)))
abbrev rm_X5_count : Room := { frames := 2, cells := 0, slots := 0, locals := 43 }
set_option maxRecDepth 100000 in
theorem k_X5_count : CF yX5_count cX5_count 2 (some .int) 1 := ⟨mt_461, mt_462, mt_1, mt_463, ⟨rfl, by decide +kernel, by decide +kernel, by decide +kernel⟩⟩
set_option maxHeartbeats 4000000 in
set_option maxRecDepth 100000 in
theorem c_X5_count {E : Ev} {ex1 : Nat} {ex3 : Nat} {ex5 : Nat} {ex6 : Nat} {ax : Nat → Nat} {ap : Nat → Nat} {Vp : Pd} {an : Nat → Nat} {Vn : St} {ah : Nat → Nat} {Vh : Hb} {ak0 : Nat → Nat} {Vk0 : St} {ak1 : Nat → Nat} {Vk1 : St} {ak2 : Nat → Nat} {Vk2 : St} {ak3 : Nat → Nat} {Vk3 : St} {ak4 : Nat → Nat} {Vk4 : St} {ak5 : Nat → Nat} {Vk5 : St} {p0 : Int32} {N : Nat} {o : Int32} (hf : f_X5_count N Vp Vn Vh Vk0 Vk1 Vk2 Vk3 Vk4 Vk5 p0 = some o) : ∀ l, MG l yX5_count cX5_count 2 (some .int) rm_X5_count E [.ref (ax 0), .int p0] [xo E ax (ap 0) ex1 (an 0) ex3 (ah 0) ex5 ex6, pd E ap Vp, sc E an Vn, hb E ah (ak0 0) (ak1 0) (ak2 0) (ak3 0) (ak4 0) (ak5 0) Vh, sc E ak0 Vk0, sc E ak1 Vk1, sc E ak2 Vk2, sc E ak3 Vk3, sc E ak4 Vk4, sc E ak5 Vk5] (fun v Y => v = some (.int o) ∧ Y = [xo E ax (ap 0) ex1 (an 0) ex3 (ah 0) ex5 ex6, pd E ap Vp, sc E an Vn, hb E ah (ak0 0) (ak1 0) (ak2 0) (ak3 0) (ak4 0) (ak5 0) Vh, sc E ak0 Vk0, sc E ak1 Vk1, sc E ak2 Vk2, sc E ak3 Vk3, sc E ak4 Vk4, sc E ak5 Vk5]) := by
  refine MG.mk (own := RX5) (lv0 := [(0, .ref (ax 0)), (1, .int p0)]) (by decide) rfl (Nat.le_of_ble_eq_true rfl) rfl (fun X C K I => ?_)
  unfold f_X5_count at hf
  refine g_iload_n C dX5_count_0 rfl 1 rfl ?_
  by_cases c1 : p0 = (18 : Int32)
  · have hf := (f_if hf).1 c1
    refine g_lookup (tgt := 28) C dX5_count_1 (by decide) (by rw [c1] <;> rfl) (by decide) ?_
    refine g_aload_n C dX5_count_28 rfl 0 rfl ?_
    refine g_get (Cl := RX5) (T := TX5) (N := 7) C mi_X5 0 rfl (List.mem_of_getElem? (i := 0) rfl) rfl 0 (by decide) mt_297 rfl rfl dX5_count_29 ?_
    refine g_get (Cl := RX1) (T := TX1) (N := 2) C mi_X1 1 rfl (List.mem_of_getElem? (i := 0) rfl) rfl 1 (by decide) mt_32 rfl rfl dX5_count_32 ?_
    obtain rfl := Option.some.inj hf
    exact g_iret C K dX5_count_35 (Nat.le_of_ble_eq_true rfl) (Nat.le_of_ble_eq_true rfl) ⟨rfl, rfl⟩
  have hf := (f_if hf).2 c1
  by_cases c2 : p0 = (19 : Int32)
  · have hf := (f_if hf).1 c2
    refine g_lookup (tgt := 36) C dX5_count_1 (by decide) (by rw [c2] <;> rfl) (by decide) ?_
    refine g_aload_n C dX5_count_36 rfl 0 rfl ?_
    refine g_get (Cl := RX5) (T := TX5) (N := 7) C mi_X5 0 rfl (List.mem_of_getElem? (i := 0) rfl) rfl 4 (by decide) mt_301 rfl rfl dX5_count_37 ?_
    refine g_get (Cl := RX0) (T := TX0) (N := 3) C mi_X0 3 rfl (List.mem_of_getElem? (i := 0) rfl) rfl 2 (by decide) mt_289 rfl rfl dX5_count_40 ?_
    obtain rfl := Option.some.inj hf
    exact g_iret C K dX5_count_43 (Nat.le_of_ble_eq_true rfl) (Nat.le_of_ble_eq_true rfl) ⟨rfl, rfl⟩
  have hf := (f_if hf).2 c2
  refine g_lookup (tgt := 44) (off := 43) C dX5_count_1 (by decide) (by show Op.lookupswitch.offset [(18, 27), (19, 35)] _ _ = _; rw [lv_osw (a := 18) c1 rfl, lv_osw (a := 19) c2 rfl] <;> rfl) (by decide) ?_
  refine g_aload_n C dX5_count_44 rfl 0 rfl ?_
  refine g_get (Cl := RX5) (T := TX5) (N := 7) C mi_X5 0 rfl (List.mem_of_getElem? (i := 0) rfl) rfl 2 (by decide) mt_299 rfl rfl dX5_count_45 ?_
  refine g_iload_n C dX5_count_48 rfl 1 rfl ?_
  obtain ⟨o3, hq4, hf⟩ := bind_s hf
  refine g_callV (As := [.int p0]) (rest := []) C k_X4_number (fun l => c_X4_number (E := E) (a := an) (V := Vn) hq4 l) mt_464 [2] rfl (by decide) ⟨_, _, _, _, List.mem_flatten.mpr ⟨_, List.mem_of_getElem? (i := 2) rfl, List.mem_of_getElem? (i := 0) rfl⟩, rfl⟩ rfl (Nat.le_of_ble_eq_true rfl) ⟨Nat.le_of_ble_eq_true rfl, Nat.le_of_ble_eq_true rfl, Nat.le_of_ble_eq_true rfl, Nat.le_of_ble_eq_true rfl⟩ dX5_count_49 ?_
  rintro _ _ ⟨rfl, rfl⟩
  show G E X 2 [xo E ax (ap 0) ex1 (an 0) ex3 (ah 0) ex5 ex6, pd E ap Vp, sc E an Vn, hb E ah (ak0 0) (ak1 0) (ak2 0) (ak3 0) (ak4 0) (ak5 0) Vh, sc E ak0 Vk0, sc E ak1 Vk1, sc E ak2 Vk2, sc E ak3 Vk3, sc E ak4 Vk4, sc E ak5 Vk5] 0 0 [(0, .ref (ax 0)), (1, .int p0)] [.int o3] 52
  obtain rfl := Option.some.inj hf
  exact g_iret C K dX5_count_52 (Nat.le_of_ble_eq_true rfl) (Nat.le_of_ble_eq_true rfl) ⟨rfl, rfl⟩
