def f_X5_wayWith (N : Nat) (Vn : St) (Vm : St) (p0 : Int32) : Option (Int32 × St) := ((f_X4_copy Vm Vn).bind fun o1 => ((f_X4_unitsUntilStopped N ((upd o1.1 (Int32.toNatClampNeg (2 : Int32)) p0), o1.2.1, o1.2.2.1, o1.2.2.2.1, o1.2.2.2.2.1, o1.2.2.2.2.2.1, o1.2.2.2.2.2.2.1, o1.2.2.2.2.2.2.2.1, o1.2.2.2.2.2.2.2.2.1, o1.2.2.2.2.2.2.2.2.2.1, o1.2.2.2.2.2.2.2.2.2.2.1, o1.2.2.2.2.2.2.2.2.2.2.2.1, o1.2.2.2.2.2.2.2.2.2.2.2.2.1, o1.2.2.2.2.2.2.2.2.2.2.2.2.2.1, o1.2.2.2.2.2.2.2.2.2.2.2.2.2.2.1, o1.2.2.2.2.2.2.2.2.2.2.2.2.2.2.2.1, o1.2.2.2.2.2.2.2.2.2.2.2.2.2.2.2.2.1, o1.2.2.2.2.2.2.2.2.2.2.2.2.2.2.2.2.2)).bind fun o3 => some (o3.1, o3.2)))
abbrev rm_X5_wayWith : Room := { frames := 4, cells := 0, slots := 0, locals := 88 }
set_option maxRecDepth 100000 in
theorem k_X5_wayWith : CF yX5_wayWith cX5_wayWith 2 (some .int) 1 := ⟨mt_478, mp_21, mt_1, mt_479, ⟨rfl, by decide +kernel, by decide +kernel, by decide +kernel⟩⟩
set_option maxHeartbeats 4000000 in
set_option maxRecDepth 100000 in
theorem c_X5_wayWith {E : Ev} {ex0 : Nat} {ex1 : Nat} {ex4 : Nat} {ex5 : Nat} {ex6 : Nat} {ax : Nat → Nat} {an : Nat → Nat} {Vn : St} {am : Nat → Nat} {Vm : St} {p0 : Int32} {N : Nat} {o : Int32 × St} (hf : f_X5_wayWith N Vn Vm p0 = some o) : ∀ l, MG l yX5_wayWith cX5_wayWith 2 (some .int) rm_X5_wayWith E [.ref (ax 0), .int p0] [xo E ax ex0 ex1 (an 0) (am 0) ex4 ex5 ex6, sc E an Vn, sc E am Vm] (fun v Y => v = some (.int o.1) ∧ Y = [xo E ax ex0 ex1 (an 0) (am 0) ex4 ex5 ex6, sc E an Vn, sc E am o.2]) := by
  refine MG.mk (own := RX5) (lv0 := [(0, .ref (ax 0)), (1, .int p0)]) (by decide) rfl (Nat.le_of_ble_eq_true rfl) rfl (fun X C K I => ?_)
  unfold f_X5_wayWith at hf
  refine g_aload_n C dX5_wayWith_0 rfl 0 rfl ?_
  refine g_get (Cl := RX5) (T := TX5) (N := 7) C mi_X5 0 rfl (List.mem_of_getElem? (i := 0) rfl) rfl 3 (by decide) mt_300 rfl rfl dX5_wayWith_1 ?_
  refine g_aload_n C dX5_wayWith_4 rfl 0 rfl ?_
  refine g_get (Cl := RX5) (T := TX5) (N := 7) C mi_X5 0 rfl (List.mem_of_getElem? (i := 0) rfl) rfl 2 (by decide) mt_299 rfl rfl dX5_wayWith_5 ?_
  obtain ⟨o1, hq2, hf⟩ := bind_s hf
  refine g_callV (As := [.ref (an 0)]) (rest := []) C k_X4_copy (fun l => c_X4_copy (E := E) (a := am) (V := Vm) (ay := an) (Vy := Vn) hq2 l) mt_480 [2, 1] rfl (by decide) ⟨_, _, _, _, List.mem_flatten.mpr ⟨_, List.mem_of_getElem? (i := 2) rfl, List.mem_of_getElem? (i := 0) rfl⟩, rfl⟩ rfl (Nat.le_of_ble_eq_true rfl) ⟨Nat.le_of_ble_eq_true rfl, Nat.le_of_ble_eq_true rfl, Nat.le_of_ble_eq_true rfl, Nat.le_of_ble_eq_true rfl⟩ dX5_wayWith_8 ?_
  rintro _ _ ⟨rfl, rfl⟩
  show G E X 2 [xo E ax ex0 ex1 (an 0) (am 0) ex4 ex5 ex6, sc E an Vn, sc E am o1] 0 0 [(0, .ref (ax 0)), (1, .int p0)] [] 11
  refine g_aload_n C dX5_wayWith_11 rfl 0 rfl ?_
  refine g_get (Cl := RX5) (T := TX5) (N := 7) C mi_X5 0 rfl (List.mem_of_getElem? (i := 0) rfl) rfl 3 (by decide) mt_300 rfl rfl dX5_wayWith_12 ?_
  refine g_get (Cl := RX4) (T := TX4) (N := 18) C mi_X4 2 rfl (List.mem_of_getElem? (i := 0) rfl) rfl 0 (by decide) mt_211 rfl rfl dX5_wayWith_15 ?_
  refine g_iconst (v := (2 : Int32)) C dX5_wayWith_18 (by decide) ?_
  refine g_iload_n C dX5_wayWith_19 rfl 1 rfl ?_
  refine g_iast (Y2 := [xo E ax ex0 ex1 (an 0) (am 0) ex4 ex5 ex6, sc E an Vn, sc E am ((upd o1.1 (Int32.toNatClampNeg (2 : Int32)) p0), o1.2.1, o1.2.2.1, o1.2.2.2.1, o1.2.2.2.2.1, o1.2.2.2.2.2.1, o1.2.2.2.2.2.2.1, o1.2.2.2.2.2.2.2.1, o1.2.2.2.2.2.2.2.2.1, o1.2.2.2.2.2.2.2.2.2.1, o1.2.2.2.2.2.2.2.2.2.2.1, o1.2.2.2.2.2.2.2.2.2.2.2.1, o1.2.2.2.2.2.2.2.2.2.2.2.2.1, o1.2.2.2.2.2.2.2.2.2.2.2.2.2.1, o1.2.2.2.2.2.2.2.2.2.2.2.2.2.2.1, o1.2.2.2.2.2.2.2.2.2.2.2.2.2.2.2.1, o1.2.2.2.2.2.2.2.2.2.2.2.2.2.2.2.2.1, o1.2.2.2.2.2.2.2.2.2.2.2.2.2.2.2.2.2)]) C 2 1 rfl rfl (by show ¬ (_ ∨ _); decide) dX5_wayWith_20 rfl ?_
  refine g_aload_n C dX5_wayWith_21 rfl 0 rfl ?_
  refine g_get (Cl := RX5) (T := TX5) (N := 7) C mi_X5 0 rfl (List.mem_of_getElem? (i := 0) rfl) rfl 3 (by decide) mt_300 rfl rfl dX5_wayWith_22 ?_
  obtain ⟨o3, hq4, hf⟩ := bind_s hf
  refine g_callV (As := []) (rest := []) C k_X4_unitsUntilStopped (fun l => c_X4_unitsUntilStopped (E := E) (a := am) (V := ((upd o1.1 (Int32.toNatClampNeg (2 : Int32)) p0), o1.2.1, o1.2.2.1, o1.2.2.2.1, o1.2.2.2.2.1, o1.2.2.2.2.2.1, o1.2.2.2.2.2.2.1, o1.2.2.2.2.2.2.2.1, o1.2.2.2.2.2.2.2.2.1, o1.2.2.2.2.2.2.2.2.2.1, o1.2.2.2.2.2.2.2.2.2.2.1, o1.2.2.2.2.2.2.2.2.2.2.2.1, o1.2.2.2.2.2.2.2.2.2.2.2.2.1, o1.2.2.2.2.2.2.2.2.2.2.2.2.2.1, o1.2.2.2.2.2.2.2.2.2.2.2.2.2.2.1, o1.2.2.2.2.2.2.2.2.2.2.2.2.2.2.2.1, o1.2.2.2.2.2.2.2.2.2.2.2.2.2.2.2.2.1, o1.2.2.2.2.2.2.2.2.2.2.2.2.2.2.2.2.2)) hq4 l) mt_481 [2] rfl (by decide) ⟨_, _, _, _, List.mem_flatten.mpr ⟨_, List.mem_of_getElem? (i := 2) rfl, List.mem_of_getElem? (i := 0) rfl⟩, rfl⟩ rfl (Nat.le_of_ble_eq_true rfl) ⟨Nat.le_of_ble_eq_true rfl, Nat.le_of_ble_eq_true rfl, Nat.le_of_ble_eq_true rfl, Nat.le_of_ble_eq_true rfl⟩ dX5_wayWith_25 ?_
  rintro _ _ ⟨rfl, rfl⟩
  show G E X 2 [xo E ax ex0 ex1 (an 0) (am 0) ex4 ex5 ex6, sc E an Vn, sc E am o3.2] 0 0 [(0, .ref (ax 0)), (1, .int p0)] [.int o3.1] 28
  obtain rfl := Option.some.inj hf
  exact g_iret C K dX5_wayWith_28 (Nat.le_of_ble_eq_true rfl) (Nat.le_of_ble_eq_true rfl) ⟨rfl, rfl⟩
def f_X5_way (N : Nat) (Vn : St) (Vm : St) : Option (Int32 × St) := ((f_X5_wayWith N Vn Vm (Vn.1 (Int32.toNatClampNeg (2 : Int32)))).bind fun o1 => some (o1.1, o1.2))
abbrev rm_X5_way : Room := { frames := 5, cells := 0, slots := 0, locals := 109 }
set_option maxRecDepth 100000 in
theorem k_X5_way : CF yX5_way cX5_way 1 (some .int) 0 := ⟨mt_473, mt_474, mt_1, mt_475, ⟨rfl, by decide +kernel, by decide +kernel, by decide +kernel⟩⟩
set_option maxHeartbeats 4000000 in
set_option maxRecDepth 100000 in
theorem c_X5_way {E : Ev} {ex0 : Nat} {ex1 : Nat} {ex4 : Nat} {ex5 : Nat} {ex6 : Nat} {ax : Nat → Nat} {an : Nat → Nat} {Vn : St} {am : Nat → Nat} {Vm : St} {N : Nat} {o : Int32 × St} (hf : f_X5_way N Vn Vm = some o) : ∀ l, MG l yX5_way cX5_way 1 (some .int) rm_X5_way E [.ref (ax 0)] [xo E ax ex0 ex1 (an 0) (am 0) ex4 ex5 ex6, sc E an Vn, sc E am Vm] (fun v Y => v = some (.int o.1) ∧ Y = [xo E ax ex0 ex1 (an 0) (am 0) ex4 ex5 ex6, sc E an Vn, sc E am o.2]) := by
  refine MG.mk (own := RX5) (lv0 := [(0, .ref (ax 0))]) (by decide) rfl (Nat.le_of_ble_eq_true rfl) rfl (fun X C K I => ?_)
  unfold f_X5_way at hf
  refine g_aload_n C dX5_way_0 rfl 0 rfl ?_
  refine g_aload_n C dX5_way_1 rfl 0 rfl ?_
  refine g_get (Cl := RX5) (T := TX5) (N := 7) C mi_X5 0 rfl (List.mem_of_getElem? (i := 0) rfl) rfl 2 (by decide) mt_299 rfl rfl dX5_way_2 ?_
  refine g_get (Cl := RX4) (T := TX4) (N := 18) C mi_X4 1 rfl (List.mem_of_getElem? (i := 0) rfl) rfl 0 (by decide) mt_211 rfl rfl dX5_way_5 ?_
  refine g_iconst (v := (2 : Int32)) C dX5_way_8 (by decide) ?_
  refine g_iald C 1 rfl (List.mem_of_getElem? (i := 1) rfl) (by show ¬ (_ ∨ _); decide) dX5_way_9 ?_
  obtain ⟨o1, hq2, hf⟩ := bind_s hf
  refine g_callV (As := [.int (Vn.1 (Int32.toNatClampNeg (2 : Int32)))]) (rest := []) C k_X5_wayWith (fun l => c_X5_wayWith (E := E) (ax := ax) (ex0 := ex0) (ex1 := ex1) (ex4 := ex4) (ex5 := ex5) (ex6 := ex6) (an := an) (Vn := Vn) (am := am) (Vm := Vm) hq2 l) mt_476 [0, 1, 2] rfl (by decide) ⟨_, _, _, _, List.mem_flatten.mpr ⟨_, List.mem_of_getElem? (i := 0) rfl, List.mem_of_getElem? (i := 0) rfl⟩, rfl⟩ rfl (Nat.le_of_ble_eq_true rfl) ⟨Nat.le_of_ble_eq_true rfl, Nat.le_of_ble_eq_true rfl, Nat.le_of_ble_eq_true rfl, Nat.le_of_ble_eq_true rfl⟩ dX5_way_10 ?_
  rintro _ _ ⟨rfl, rfl⟩
  show G E X 1 [xo E ax ex0 ex1 (an 0) (am 0) ex4 ex5 ex6, sc E an Vn, sc E am o1.2] 0 0 [(0, .ref (ax 0))] [.int o1.1] 13
  obtain rfl := Option.some.inj hf
  exact g_iret C K dX5_way_13 (Nat.le_of_ble_eq_true rfl) (Nat.le_of_ble_eq_true rfl) ⟨rfl, rfl⟩
def f_X5_emptyIn (N : Nat) (Vn : St) (Vm : St) (Ru : Ru) : Option (Int32 × St) := ((f_X4_copy Vm Vn).bind fun o1 => ((f_X4_ticksUntilEmpty N o1 Ru).bind fun o3 => some (o3.1, o3.2)))
abbrev rm_X5_emptyIn : Room := { frames := 6, cells := 0, slots := 0, locals := 137 }
set_option maxRecDepth 100000 in
theorem k_X5_emptyIn : CF yX5_emptyIn cX5_emptyIn 1 (some .int) 0 := ⟨mt_629, mt_630, mt_1, mt_631, ⟨rfl, by decide +kernel, by decide +kernel, by decide +kernel⟩⟩
set_option maxHeartbeats 4000000 in
set_option maxRecDepth 100000 in
theorem c_X5_emptyIn {E : Ev} {ex0 : Nat} {ex1 : Nat} {ex4 : Nat} {ex5 : Nat} {ex6 : Nat} {ax : Nat → Nat} {an : Nat → Nat} {Vn : St} {am : Nat → Nat} {Vm : St} {gu : va_W} {bu : Nat → Nat} {Ru : Ru} (hgu : ∀ c ∈ ru E Vn.2.2.2.2.2.2.1 bu Ru, c ∈ gu) {N : Nat} {o : Int32 × St} (hf : f_X5_emptyIn N Vn Vm Ru = some o) : ∀ l, MG l yX5_emptyIn cX5_emptyIn 1 (some .int) rm_X5_emptyIn E [.ref (ax 0)] [xo E ax ex0 ex1 (an 0) (am 0) ex4 ex5 ex6, sc E an Vn, sc E am Vm, gu] (fun v Y => v = some (.int o.1) ∧ Y = [xo E ax ex0 ex1 (an 0) (am 0) ex4 ex5 ex6, sc E an Vn, sc E am o.2, gu]) := by
  refine MG.mk (own := RX5) (lv0 := [(0, .ref (ax 0))]) (by decide) rfl (Nat.le_of_ble_eq_true rfl) rfl (fun X C K I => ?_)
  unfold f_X5_emptyIn at hf
  refine g_aload_n C dX5_emptyIn_0 rfl 0 rfl ?_
  refine g_get (Cl := RX5) (T := TX5) (N := 7) C mi_X5 0 rfl (List.mem_of_getElem? (i := 0) rfl) rfl 3 (by decide) mt_300 rfl rfl dX5_emptyIn_1 ?_
  refine g_aload_n C dX5_emptyIn_4 rfl 0 rfl ?_
  refine g_get (Cl := RX5) (T := TX5) (N := 7) C mi_X5 0 rfl (List.mem_of_getElem? (i := 0) rfl) rfl 2 (by decide) mt_299 rfl rfl dX5_emptyIn_5 ?_
  obtain ⟨o1, hq2, hf⟩ := bind_s hf
  refine g_callV (As := [.ref (an 0)]) (rest := []) C k_X4_copy (fun l => c_X4_copy (E := E) (a := am) (V := Vm) (ay := an) (Vy := Vn) hq2 l) mt_480 [2, 1] rfl (by decide) ⟨_, _, _, _, List.mem_flatten.mpr ⟨_, List.mem_of_getElem? (i := 2) rfl, List.mem_of_getElem? (i := 0) rfl⟩, rfl⟩ rfl (Nat.le_of_ble_eq_true rfl) ⟨Nat.le_of_ble_eq_true rfl, Nat.le_of_ble_eq_true rfl, Nat.le_of_ble_eq_true rfl, Nat.le_of_ble_eq_true rfl⟩ dX5_emptyIn_8 ?_
  rintro _ _ ⟨rfl, rfl⟩
  show G E X 1 [xo E ax ex0 ex1 (an 0) (am 0) ex4 ex5 ex6, sc E an Vn, sc E am o1, gu] 0 0 [(0, .ref (ax 0))] [] 11
  refine g_aload_n C dX5_emptyIn_11 rfl 0 rfl ?_
  refine g_get (Cl := RX5) (T := TX5) (N := 7) C mi_X5 0 rfl (List.mem_of_getElem? (i := 0) rfl) rfl 3 (by decide) mt_300 rfl rfl dX5_emptyIn_12 ?_
  obtain ⟨o3, hq4, hf⟩ := bind_s hf
  refine g_callV (As := []) (rest := []) C k_X4_ticksUntilEmpty (fun l => c_X4_ticksUntilEmpty (E := E) (a := am) (V := o1) (gx := gu) (bx := bu) (Rx := Ru) (by rw [cpr hq2]; exact hgu) hq4 l) mt_632 [2, 3] rfl (by decide) ⟨_, _, _, _, List.mem_flatten.mpr ⟨_, List.mem_of_getElem? (i := 2) rfl, List.mem_of_getElem? (i := 0) rfl⟩, rfl⟩ rfl (Nat.le_of_ble_eq_true rfl) ⟨Nat.le_of_ble_eq_true rfl, Nat.le_of_ble_eq_true rfl, Nat.le_of_ble_eq_true rfl, Nat.le_of_ble_eq_true rfl⟩ dX5_emptyIn_15 ?_
  rintro _ _ ⟨rfl, rfl⟩
  show G E X 1 [xo E ax ex0 ex1 (an 0) (am 0) ex4 ex5 ex6, sc E an Vn, sc E am o3.2, gu] 0 0 [(0, .ref (ax 0))] [.int o3.1] 18
  obtain rfl := Option.some.inj hf
  exact g_iret C K dX5_emptyIn_18 (Nat.le_of_ble_eq_true rfl) (Nat.le_of_ble_eq_true rfl) ⟨rfl, rfl⟩
def b_X5_leastRamp_20 (N : Nat) (Vn : St) (Vm : St) (p0 : Int32) (K20 : (St × Int32) → Option (Int32 × St)) (s : St × Int32) : Option (Int32 × St) := (if (lstG.getD (Int32.toNatClampNeg (2 : Int32)) 0) < s.2 then some ((-6 : Int32), s.1) else ((f_X5_wayWith N Vn s.1 s.2).bind fun o2 => (if p0 < o2.1 then K20 (o2.2, (s.2 + (1 : Int32))) else some (s.2, o2.2))))
def b_X5_leastRamp_11 (N : Nat) (Vn : St) (Vm : St) (p0 : Int32) (s : Unit) : Option (Int32 × St) := some ((-2 : Int32), Vm)
def f_X5_leastRamp (N : Nat) (Vn : St) (Vm : St) (p0 : Int32) : Option (Int32 × St) := (if p0 < 0 then b_X5_leastRamp_11 N Vn Vm p0 () else (if p0 ≤ (9999 : Int32) then lp (b_X5_leastRamp_20 N Vn Vm p0) N (Vm, (lstL.getD (Int32.toNatClampNeg (2 : Int32)) 0)) else b_X5_leastRamp_11 N Vn Vm p0 ()))
abbrev rm_X5_leastRamp : Room := { frames := 5, cells := 0, slots := 0, locals := 109 }
set_option maxRecDepth 100000 in
theorem k_X5_leastRamp : CF yX5_leastRamp cX5_leastRamp 3 (some .int) 1 := ⟨mt_622, mt_623, mt_1, mt_624, ⟨rfl, by decide +kernel, by decide +kernel, by decide +kernel⟩⟩
set_option maxHeartbeats 4000000 in
set_option maxRecDepth 100000 in
theorem c_X5_leastRamp {E : Ev} {ex0 : Nat} {ex1 : Nat} {ex4 : Nat} {ex5 : Nat} {ex6 : Nat} {ax : Nat → Nat} {an : Nat → Nat} {Vn : St} {am : Nat → Nat} {Vm : St} {p0 : Int32} {N : Nat} {o : Int32 × St} (hf : f_X5_leastRamp N Vn Vm p0 = some o) : ∀ l, MG l yX5_leastRamp cX5_leastRamp 3 (some .int) rm_X5_leastRamp E [.ref (ax 0), .int p0] [xo E ax ex0 ex1 (an 0) (am 0) ex4 ex5 ex6, sc E an Vn, sc E am Vm] (fun v Y => v = some (.int o.1) ∧ Y = [xo E ax ex0 ex1 (an 0) (am 0) ex4 ex5 ex6, sc E an Vn, sc E am o.2]) := by
  refine MG.mk (own := RX5) (lv0 := [(0, .ref (ax 0)), (1, .int p0)]) (by decide) rfl (Nat.le_of_ble_eq_true rfl) rfl (fun X C K I => ?_)
  have h20 : ∀ (n : Nat) (s : St × Int32), lp (b_X5_leastRamp_20 N Vn Vm p0) n s = some o → G E X 3 [xo E ax ex0 ex1 (an 0) (am 0) ex4 ex5 ex6, sc E an Vn, sc E am s.1] 0 0 [(0, .ref (ax 0)), (1, .int p0), (2, .int s.2)] [] 20 := by
    refine lp_ind ?_
    intro K20 hK20 s hf
    unfold b_X5_leastRamp_20 at hf
    refine g_iload_n C dX5_leastRamp_20 rfl 2 rfl ?_
    refine g_gets C (fun _ _ _ h => h.2.1.1) mt_325 rfl dX5_leastRamp_21 ?_
    refine g_iconst (v := (2 : Int32)) C dX5_leastRamp_24 (by decide) ?_
    refine g_ti (f := fun j => lstG.getD j 0) C (fun _ _ _ h => h.2.1.2) (by show ¬ (_ ∨ _); decide) dX5_leastRamp_25 ?_
    refine g_icmp_gt (tgt := 46) C dX5_leastRamp_26 (by decide) (fun c1 => ?_) (fun c1 => ?_)
    · have hf := (f_if hf).1 c1
      refine g_bipush (v := (-6 : Int32)) C dX5_leastRamp_46 (by decide) ?_
      obtain rfl := Option.some.inj hf
      exact g_iret C K dX5_leastRamp_48 (Nat.le_of_ble_eq_true rfl) (Nat.le_of_ble_eq_true rfl) ⟨rfl, rfl⟩
    · have hf := (f_if hf).2 c1
      refine g_aload_n C dX5_leastRamp_29 rfl 0 rfl ?_
      refine g_iload_n C dX5_leastRamp_30 rfl 2 rfl ?_
      obtain ⟨o2, hq3, hf⟩ := bind_s hf
      refine g_callV (As := [.int s.2]) (rest := []) C k_X5_wayWith (fun l => c_X5_wayWith (E := E) (ax := ax) (ex0 := ex0) (ex1 := ex1) (ex4 := ex4) (ex5 := ex5) (ex6 := ex6) (an := an) (Vn := Vn) (am := am) (Vm := s.1) hq3 l) mt_476 [0, 1, 2] rfl (by decide) ⟨_, _, _, _, List.mem_flatten.mpr ⟨_, List.mem_of_getElem? (i := 0) rfl, List.mem_of_getElem? (i := 0) rfl⟩, rfl⟩ rfl (Nat.le_of_ble_eq_true rfl) ⟨Nat.le_of_ble_eq_true rfl, Nat.le_of_ble_eq_true rfl, Nat.le_of_ble_eq_true rfl, Nat.le_of_ble_eq_true rfl⟩ dX5_leastRamp_31 ?_
      rintro _ _ ⟨rfl, rfl⟩
      show G E X 3 [xo E ax ex0 ex1 (an 0) (am 0) ex4 ex5 ex6, sc E an Vn, sc E am o2.2] 0 0 [(0, .ref (ax 0)), (1, .int p0), (2, .int s.2)] [.int o2.1] 34
      refine g_iload_n C dX5_leastRamp_34 rfl 1 rfl ?_
      refine g_icmp_gt (tgt := 40) C dX5_leastRamp_35 (by decide) (fun c4 => ?_) (fun c4 => ?_)
      · have hf := (f_if hf).1 c4
        refine g_iinc (v := (s.2 + (1 : Int32))) (lv2 := [(2, .int (s.2 + (1 : Int32))), (0, .ref (ax 0)), (1, .int p0)]) C dX5_leastRamp_40 2 rfl (ii (by decide)) (by decide) rfl ?_
        refine g_goto (tgt := 20) C dX5_leastRamp_43 (by decide) ?_
        refine g_sub (lv2 := [(0, .ref (ax 0)), (1, .int p0), (2, .int (s.2 + (1 : Int32)))]) [1, 2, 0] rfl ?_
        exact hK20 (o2.2, (s.2 + (1 : Int32))) hf
      · have hf := (f_if hf).2 c4
        refine g_iload_n C dX5_leastRamp_38 rfl 2 rfl ?_
        obtain rfl := Option.some.inj hf
        exact g_iret C K dX5_leastRamp_39 (Nat.le_of_ble_eq_true rfl) (Nat.le_of_ble_eq_true rfl) ⟨rfl, rfl⟩
  have h11 : ∀ s : Unit, b_X5_leastRamp_11 N Vn Vm p0 s = some o → G E X 3 [xo E ax ex0 ex1 (an 0) (am 0) ex4 ex5 ex6, sc E an Vn, sc E am Vm] 0 0 [] [] 11 := by
    intro s hf
    unfold b_X5_leastRamp_11 at hf
    refine g_bipush (v := (-2 : Int32)) C dX5_leastRamp_11 (by decide) ?_
    obtain rfl := Option.some.inj hf
    exact g_iret C K dX5_leastRamp_13 (Nat.le_of_ble_eq_true rfl) (Nat.le_of_ble_eq_true rfl) ⟨rfl, rfl⟩
  unfold f_X5_leastRamp at hf
  refine g_iload_n C dX5_leastRamp_0 rfl 1 rfl ?_
  refine g_if_lt (tgt := 11) C dX5_leastRamp_1 (by decide) (fun c5 => ?_) (fun c5 => ?_)
  · have hf := (f_if hf).1 c5
    refine g_sub (lv2 := []) [] rfl ?_
    exact h11 () hf
  · have hf := (f_if hf).2 c5
    refine g_iload_n C dX5_leastRamp_4 rfl 1 rfl ?_
    refine g_sipush (v := (9999 : Int32)) C dX5_leastRamp_5 (by decide) ?_
    refine g_icmp_le (tgt := 14) C dX5_leastRamp_8 (by decide) (fun c6 => ?_) (fun c6 => ?_)
    · have hf := (f_if hf).1 c6
      refine g_gets C (fun _ _ _ h => h.1.1) mt_323 rfl dX5_leastRamp_14 ?_
      refine g_iconst (v := (2 : Int32)) C dX5_leastRamp_17 (by decide) ?_
      refine g_ti (f := fun j => lstL.getD j 0) C (fun _ _ _ h => h.1.2) (by show ¬ (_ ∨ _); decide) dX5_leastRamp_18 ?_
      refine g_istore_n (lv2 := [(2, .int (lstL.getD (Int32.toNatClampNeg (2 : Int32)) 0)), (0, .ref (ax 0)), (1, .int p0)]) C dX5_leastRamp_19 rfl (by decide) rfl ?_
      refine g_sub (lv2 := [(0, .ref (ax 0)), (1, .int p0), (2, .int (lstL.getD (Int32.toNatClampNeg (2 : Int32)) 0))]) [1, 2, 0] rfl ?_
      exact h20 N (Vm, (lstL.getD (Int32.toNatClampNeg (2 : Int32)) 0)) hf
    · have hf := (f_if hf).2 c6
      refine g_sub (lv2 := []) [] rfl ?_
      exact h11 () hf
def b_X5_wouldHold_33 (N : Nat) (Vn : St) (Ru : Ru) (p0 : Int32) (s : Int32) : Option (Int32) := some s
def b_X5_wouldHold_11 (N : Nat) (Vn : St) (Ru : Ru) (p0 : Int32) (s : Unit) : Option (Int32) := some (-2 : Int32)
def f_X5_wouldHold (N : Nat) (Vn : St) (Ru : Ru) (p0 : Int32) : Option (Int32) := (if p0 < 0 then b_X5_wouldHold_11 N Vn Ru p0 () else (if p0 < (256 : Int32) then ((f_X3_holds N Ru p0).bind fun o3 => (if o3 = 0 then b_X5_wouldHold_33 N Vn Ru p0 (0 : Int32) else b_X5_wouldHold_33 N Vn Ru p0 (1 : Int32))) else b_X5_wouldHold_11 N Vn Ru p0 ()))
abbrev rm_X5_wouldHold : Room := { frames := 4, cells := 0, slots := 0, locals := 95 }
set_option maxRecDepth 100000 in
theorem k_X5_wouldHold : CF yX5_wouldHold cX5_wouldHold 2 (some .int) 1 := ⟨mt_582, mt_583, mt_1, mt_584, ⟨rfl, by decide +kernel, by decide +kernel, by decide +kernel⟩⟩
set_option maxHeartbeats 4000000 in
set_option maxRecDepth 100000 in
theorem c_X5_wouldHold {E : Ev} {ex0 : Nat} {ex1 : Nat} {ex3 : Nat} {ex4 : Nat} {ex5 : Nat} {ex6 : Nat} {ax : Nat → Nat} {an : Nat → Nat} {Vn : St} {gu : va_W} {bu : Nat → Nat} {Ru : Ru} (hgu : ∀ c ∈ ru E Vn.2.2.2.2.2.2.1 bu Ru, c ∈ gu) {p0 : Int32} {N : Nat} {o : Int32} (hf : f_X5_wouldHold N Vn Ru p0 = some o) : ∀ l, MG l yX5_wouldHold cX5_wouldHold 2 (some .int) rm_X5_wouldHold E [.ref (ax 0), .int p0] [xo E ax ex0 ex1 (an 0) ex3 ex4 ex5 ex6, sc E an Vn, gu] (fun v Y => v = some (.int o) ∧ Y = [xo E ax ex0 ex1 (an 0) ex3 ex4 ex5 ex6, sc E an Vn, gu]) := by
  refine MG.mk (own := RX5) (lv0 := [(0, .ref (ax 0)), (1, .int p0)]) (by decide) rfl (Nat.le_of_ble_eq_true rfl) rfl (fun X C K I => ?_)
  have h33 : ∀ s : Int32, b_X5_wouldHold_33 N Vn Ru p0 s = some o → G E X 2 [xo E ax ex0 ex1 (an 0) ex3 ex4 ex5 ex6, sc E an Vn, gu] 0 0 [] [.int s] 33 := by
    intro s hf
    unfold b_X5_wouldHold_33 at hf
    obtain rfl := Option.some.inj hf
    exact g_iret C K dX5_wouldHold_33 (Nat.le_of_ble_eq_true rfl) (Nat.le_of_ble_eq_true rfl) ⟨rfl, rfl⟩
  have h11 : ∀ s : Unit, b_X5_wouldHold_11 N Vn Ru p0 s = some o → G E X 2 [xo E ax ex0 ex1 (an 0) ex3 ex4 ex5 ex6, sc E an Vn, gu] 0 0 [] [] 11 := by
    intro s hf
    unfold b_X5_wouldHold_11 at hf
    refine g_bipush (v := (-2 : Int32)) C dX5_wouldHold_11 (by decide) ?_
    obtain rfl := Option.some.inj hf
    exact g_iret C K dX5_wouldHold_13 (Nat.le_of_ble_eq_true rfl) (Nat.le_of_ble_eq_true rfl) ⟨rfl, rfl⟩
  unfold f_X5_wouldHold at hf
  refine g_iload_n C dX5_wouldHold_0 rfl 1 rfl ?_
  refine g_if_lt (tgt := 11) C dX5_wouldHold_1 (by decide) (fun c1 => ?_) (fun c1 => ?_)
  · have hf := (f_if hf).1 c1
    refine g_sub (lv2 := []) [] rfl ?_
    exact h11 () hf
  · have hf := (f_if hf).2 c1
    refine g_iload_n C dX5_wouldHold_4 rfl 1 rfl ?_
    refine g_sipush (v := (256 : Int32)) C dX5_wouldHold_5 (by decide) ?_
    refine g_icmp_lt (tgt := 14) C dX5_wouldHold_8 (by decide) (fun c2 => ?_) (fun c2 => ?_)
    · have hf := (f_if hf).1 c2
      refine g_aload_n C dX5_wouldHold_14 rfl 0 rfl ?_
      refine g_get (Cl := RX5) (T := TX5) (N := 7) C mi_X5 0 rfl (List.mem_of_getElem? (i := 0) rfl) rfl 2 (by decide) mt_299 rfl rfl dX5_wouldHold_15 ?_
      refine g_get (Cl := RX4) (T := TX4) (N := 18) C mi_X4 1 rfl (List.mem_of_getElem? (i := 0) rfl) rfl 6 (by decide) mt_223 rfl rfl dX5_wouldHold_18 ?_
      refine g_iload_n C dX5_wouldHold_21 rfl 1 rfl ?_
      obtain ⟨o3, hq4, hf⟩ := bind_s hf
      refine g_callV (As := [.int p0]) (rest := []) C k_X3_holds (fun l => c_X3_holds (E := E) (g := gu) (r := Vn.2.2.2.2.2.2.1) (b := bu) (R := Ru) hgu hq4 l) mt_496 [2] rfl (by decide) ⟨_, _, _, _, List.mem_flatten.mpr ⟨_, List.mem_of_getElem? (i := 2) rfl, hgu _ (List.mem_of_getElem? (l := ru E Vn.2.2.2.2.2.2.1 bu Ru) (i := 0) rfl)⟩, rfl⟩ rfl (Nat.le_of_ble_eq_true rfl) ⟨Nat.le_of_ble_eq_true rfl, Nat.le_of_ble_eq_true rfl, Nat.le_of_ble_eq_true rfl, Nat.le_of_ble_eq_true rfl⟩ dX5_wouldHold_22 ?_
      rintro _ _ ⟨rfl, rfl⟩
      show G E X 2 [xo E ax ex0 ex1 (an 0) ex3 ex4 ex5 ex6, sc E an Vn, gu] 0 0 [(0, .ref (ax 0)), (1, .int p0)] [.int o3] 25
      refine g_if_eq (tgt := 32) C dX5_wouldHold_25 (by decide) (fun c5 => ?_) (fun c5 => ?_)
      · have hf := (f_if hf).1 c5
        refine g_iconst (v := (0 : Int32)) C dX5_wouldHold_32 (by decide) ?_
        refine g_sub (lv2 := []) [] rfl ?_
        exact h33 (0 : Int32) hf
      · have hf := (f_if hf).2 c5
        refine g_iconst (v := (1 : Int32)) C dX5_wouldHold_28 (by decide) ?_
        refine g_goto (tgt := 33) C dX5_wouldHold_29 (by decide) ?_
        refine g_sub (lv2 := []) [] rfl ?_
        exact h33 (1 : Int32) hf
    · have hf := (f_if hf).2 c2
      refine g_sub (lv2 := []) [] rfl ?_
      exact h11 () hf
def b_X5_fewest_55 (N : Nat) (Vn : St) (Ru : Ru) (K5 : (Int32 × Int32) → Option (Int32)) (s : Int32 × Int32) : Option (Int32) := K5 (s.1, (s.2 + (1 : Int32)))
def b_X5_fewest_34 (N : Nat) (Vn : St) (Ru : Ru) (K5 : (Int32 × Int32) → Option (Int32)) (s : Int32 × Int32 × Int32) : Option (Int32) := (if s.2.2 = 0 then b_X5_fewest_55 N Vn Ru K5 (s.1, s.2.1) else ((f_X3_holds N Ru s.2.1).bind fun o2 => (if o2 = 0 then b_X5_fewest_55 N Vn Ru K5 (s.1, s.2.1) else b_X5_fewest_55 N Vn Ru K5 (s.2.1, s.2.1))))
def b_X5_fewest_29 (N : Nat) (Vn : St) (Ru : Ru) (K5 : (Int32 × Int32) → Option (Int32)) (s : Int32 × Int32) : Option (Int32) := b_X5_fewest_34 N Vn Ru K5 (s.1, s.2, (1 : Int32))
def b_X5_fewest_5 (N : Nat) (Vn : St) (Ru : Ru) (K5 : (Int32 × Int32) → Option (Int32)) (s : Int32 × Int32) : Option (Int32) := (if (256 : Int32) ≤ s.2 then some s.1 else (if s.1 = (-6 : Int32) then b_X5_fewest_29 N Vn Ru K5 (s.1, s.2) else ((f_J6_bitCount_0f7a4 s.2).bind fun o7 => ((f_J6_bitCount_0f7a4 s.1).bind fun o9 => (if o9 ≤ o7 then b_X5_fewest_34 N Vn Ru K5 (s.1, s.2, (0 : Int32)) else b_X5_fewest_29 N Vn Ru K5 (s.1, s.2))))))
def f_X5_fewest (N : Nat) (Vn : St) (Ru : Ru) : Option (Int32) := lp (b_X5_fewest_5 N Vn Ru) N ((-6 : Int32), (0 : Int32))
abbrev rm_X5_fewest : Room := { frames := 4, cells := 0, slots := 0, locals := 95 }
set_option maxRecDepth 100000 in
theorem k_X5_fewest : CF yX5_fewest cX5_fewest 4 (some .int) 0 := ⟨mt_487, mt_488, mt_1, mt_489, ⟨rfl, by decide +kernel, by decide +kernel, by decide +kernel⟩⟩
set_option maxHeartbeats 4000000 in
set_option maxRecDepth 100000 in
theorem c_X5_fewest {E : Ev} {ex0 : Nat} {ex1 : Nat} {ex3 : Nat} {ex4 : Nat} {ex5 : Nat} {ex6 : Nat} {ax : Nat → Nat} {an : Nat → Nat} {Vn : St} {gu : va_W} {bu : Nat → Nat} {Ru : Ru} (hgu : ∀ c ∈ ru E Vn.2.2.2.2.2.2.1 bu Ru, c ∈ gu) {N : Nat} {o : Int32} (hf : f_X5_fewest N Vn Ru = some o) : ∀ l, MG l yX5_fewest cX5_fewest 4 (some .int) rm_X5_fewest E [.ref (ax 0)] [xo E ax ex0 ex1 (an 0) ex3 ex4 ex5 ex6, sc E an Vn, gu] (fun v Y => v = some (.int o) ∧ Y = [xo E ax ex0 ex1 (an 0) ex3 ex4 ex5 ex6, sc E an Vn, gu]) := by
  refine MG.mk (own := RX5) (lv0 := [(0, .ref (ax 0))]) (by decide) rfl (Nat.le_of_ble_eq_true rfl) rfl (fun X C K I => ?_)
  have h55 : ∀ (K5 : (Int32 × Int32) → Option (Int32)), (∀ s : Int32 × Int32, K5 s = some o → G E X 4 [xo E ax ex0 ex1 (an 0) ex3 ex4 ex5 ex6, sc E an Vn, gu] 0 0 [(0, .ref (ax 0)), (1, .int s.1), (2, .int s.2)] [] 5) → ∀ s : Int32 × Int32, b_X5_fewest_55 N Vn Ru K5 s = some o → G E X 4 [xo E ax ex0 ex1 (an 0) ex3 ex4 ex5 ex6, sc E an Vn, gu] 0 0 [(0, .ref (ax 0)), (1, .int s.1), (2, .int s.2)] [] 55 := by
    intro K5 hK5 s hf
    unfold b_X5_fewest_55 at hf
    refine g_iinc (v := (s.2 + (1 : Int32))) (lv2 := [(2, .int (s.2 + (1 : Int32))), (0, .ref (ax 0)), (1, .int s.1)]) C dX5_fewest_55 2 rfl (ii (by decide)) (by decide) rfl ?_
    refine g_goto (tgt := 5) C dX5_fewest_58 (by decide) ?_
    refine g_sub (lv2 := [(0, .ref (ax 0)), (1, .int s.1), (2, .int (s.2 + (1 : Int32)))]) [1, 2, 0] rfl ?_
    exact hK5 (s.1, (s.2 + (1 : Int32))) hf
  have h34 : ∀ (K5 : (Int32 × Int32) → Option (Int32)), (∀ s : Int32 × Int32, K5 s = some o → G E X 4 [xo E ax ex0 ex1 (an 0) ex3 ex4 ex5 ex6, sc E an Vn, gu] 0 0 [(0, .ref (ax 0)), (1, .int s.1), (2, .int s.2)] [] 5) → ∀ s : Int32 × Int32 × Int32, b_X5_fewest_34 N Vn Ru K5 s = some o → G E X 4 [xo E ax ex0 ex1 (an 0) ex3 ex4 ex5 ex6, sc E an Vn, gu] 0 0 [(0, .ref (ax 0)), (1, .int s.1), (2, .int s.2.1)] [.int s.2.2] 34 := by
    intro K5 hK5 s hf
    unfold b_X5_fewest_34 at hf
    refine g_istore_n (lv2 := [(3, .int s.2.2), (0, .ref (ax 0)), (1, .int s.1), (2, .int s.2.1)]) C dX5_fewest_34 rfl (by decide) rfl ?_
    refine g_iload_n C dX5_fewest_35 rfl 0 rfl ?_
    refine g_if_eq (tgt := 55) C dX5_fewest_36 (by decide) (fun c1 => ?_) (fun c1 => ?_)
    · have hf := (f_if hf).1 c1
      refine g_sub (lv2 := [(0, .ref (ax 0)), (1, .int s.1), (2, .int s.2.1)]) [1, 2, 3] rfl ?_
      exact h55 K5 hK5 (s.1, s.2.1) hf
    · have hf := (f_if hf).2 c1
      refine g_aload_n C dX5_fewest_39 rfl 1 rfl ?_
      refine g_get (Cl := RX5) (T := TX5) (N := 7) C mi_X5 0 rfl (List.mem_of_getElem? (i := 0) rfl) rfl 2 (by decide) mt_299 rfl rfl dX5_fewest_40 ?_
      refine g_get (Cl := RX4) (T := TX4) (N := 18) C mi_X4 1 rfl (List.mem_of_getElem? (i := 0) rfl) rfl 6 (by decide) mt_223 rfl rfl dX5_fewest_43 ?_
      refine g_iload_n C dX5_fewest_46 rfl 3 rfl ?_
      obtain ⟨o2, hq3, hf⟩ := bind_s hf
      refine g_callV (As := [.int s.2.1]) (rest := []) C k_X3_holds (fun l => c_X3_holds (E := E) (g := gu) (r := Vn.2.2.2.2.2.2.1) (b := bu) (R := Ru) hgu hq3 l) mt_496 [2] rfl (by decide) ⟨_, _, _, _, List.mem_flatten.mpr ⟨_, List.mem_of_getElem? (i := 2) rfl, hgu _ (List.mem_of_getElem? (l := ru E Vn.2.2.2.2.2.2.1 bu Ru) (i := 0) rfl)⟩, rfl⟩ rfl (Nat.le_of_ble_eq_true rfl) ⟨Nat.le_of_ble_eq_true rfl, Nat.le_of_ble_eq_true rfl, Nat.le_of_ble_eq_true rfl, Nat.le_of_ble_eq_true rfl⟩ dX5_fewest_47 ?_
      rintro _ _ ⟨rfl, rfl⟩
      show G E X 4 [xo E ax ex0 ex1 (an 0) ex3 ex4 ex5 ex6, sc E an Vn, gu] 0 0 [(3, .int s.2.2), (0, .ref (ax 0)), (1, .int s.1), (2, .int s.2.1)] [.int o2] 50
      refine g_if_eq (tgt := 55) C dX5_fewest_50 (by decide) (fun c4 => ?_) (fun c4 => ?_)
      · have hf := (f_if hf).1 c4
        refine g_sub (lv2 := [(0, .ref (ax 0)), (1, .int s.1), (2, .int s.2.1)]) [1, 2, 3] rfl ?_
        exact h55 K5 hK5 (s.1, s.2.1) hf
      · have hf := (f_if hf).2 c4
        refine g_iload_n C dX5_fewest_53 rfl 3 rfl ?_
        refine g_istore_n (lv2 := [(1, .int s.2.1), (3, .int s.2.2), (0, .ref (ax 0)), (2, .int s.2.1)]) C dX5_fewest_54 rfl (by decide) rfl ?_
        refine g_sub (lv2 := [(0, .ref (ax 0)), (1, .int s.2.1), (2, .int s.2.1)]) [2, 0, 3] rfl ?_
        exact h55 K5 hK5 (s.2.1, s.2.1) hf
  have h29 : ∀ (K5 : (Int32 × Int32) → Option (Int32)), (∀ s : Int32 × Int32, K5 s = some o → G E X 4 [xo E ax ex0 ex1 (an 0) ex3 ex4 ex5 ex6, sc E an Vn, gu] 0 0 [(0, .ref (ax 0)), (1, .int s.1), (2, .int s.2)] [] 5) → ∀ s : Int32 × Int32, b_X5_fewest_29 N Vn Ru K5 s = some o → G E X 4 [xo E ax ex0 ex1 (an 0) ex3 ex4 ex5 ex6, sc E an Vn, gu] 0 0 [(0, .ref (ax 0)), (1, .int s.1), (2, .int s.2)] [] 29 := by
    intro K5 hK5 s hf
    unfold b_X5_fewest_29 at hf
    refine g_iconst (v := (1 : Int32)) C dX5_fewest_29 (by decide) ?_
    refine g_goto (tgt := 34) C dX5_fewest_30 (by decide) ?_
    exact h34 K5 hK5 (s.1, s.2, (1 : Int32)) hf
  have h5 : ∀ (n : Nat) (s : Int32 × Int32), lp (b_X5_fewest_5 N Vn Ru) n s = some o → G E X 4 [xo E ax ex0 ex1 (an 0) ex3 ex4 ex5 ex6, sc E an Vn, gu] 0 0 [(0, .ref (ax 0)), (1, .int s.1), (2, .int s.2)] [] 5 := by
    refine lp_ind ?_
    intro K5 hK5 s hf
    unfold b_X5_fewest_5 at hf
    refine g_iload_n C dX5_fewest_5 rfl 2 rfl ?_
    refine g_sipush (v := (256 : Int32)) C dX5_fewest_6 (by decide) ?_
    refine g_icmp_ge (tgt := 61) C dX5_fewest_9 (by decide) (fun c5 => ?_) (fun c5 => ?_)
    · have hf := (f_if hf).1 c5
      refine g_iload_n C dX5_fewest_61 rfl 1 rfl ?_
      obtain rfl := Option.some.inj hf
      exact g_iret C K dX5_fewest_62 (Nat.le_of_ble_eq_true rfl) (Nat.le_of_ble_eq_true rfl) ⟨rfl, rfl⟩
    · have hf := (f_if hf).2 c5
      refine g_iload_n C dX5_fewest_12 rfl 1 rfl ?_
      refine g_bipush (v := (-6 : Int32)) C dX5_fewest_13 (by decide) ?_
      refine g_icmp_eq (tgt := 29) C dX5_fewest_15 (by decide) (fun c6 => ?_) (fun c6 => ?_)
      · have hf := (f_if hf).1 c6
        exact h29 K5 hK5 (s.1, s.2) hf
      · have hf := (f_if hf).2 c6
        refine g_iload_n C dX5_fewest_18 rfl 2 rfl ?_
        obtain ⟨o7, hq8, hf⟩ := bind_s hf
        refine g_callS (As := [.int s.2]) (rest := []) C k_J6_bitCount_0f7a4 (fun l => c_J6_bitCount_0f7a4 (E := E) hq8 l) mt_490 [] rfl (by decide) rfl (Nat.le_of_ble_eq_true rfl) ⟨Nat.le_of_ble_eq_true rfl, Nat.le_of_ble_eq_true rfl, Nat.le_of_ble_eq_true rfl, Nat.le_of_ble_eq_true rfl⟩ dX5_fewest_19 ?_
        rintro _ _ ⟨rfl, rfl⟩
        show G E X 4 [xo E ax ex0 ex1 (an 0) ex3 ex4 ex5 ex6, sc E an Vn, gu] 0 0 [(0, .ref (ax 0)), (1, .int s.1), (2, .int s.2)] [.int o7] 22
        refine g_iload_n C dX5_fewest_22 rfl 1 rfl ?_
        obtain ⟨o9, hq10, hf⟩ := bind_s hf
        refine g_callS (As := [.int s.1]) (rest := [.int o7]) C k_J6_bitCount_0f7a4 (fun l => c_J6_bitCount_0f7a4 (E := E) hq10 l) mt_490 [] rfl (by decide) rfl (Nat.le_of_ble_eq_true rfl) ⟨Nat.le_of_ble_eq_true rfl, Nat.le_of_ble_eq_true rfl, Nat.le_of_ble_eq_true rfl, Nat.le_of_ble_eq_true rfl⟩ dX5_fewest_23 ?_
        rintro _ _ ⟨rfl, rfl⟩
        show G E X 4 [xo E ax ex0 ex1 (an 0) ex3 ex4 ex5 ex6, sc E an Vn, gu] 0 0 [(0, .ref (ax 0)), (1, .int s.1), (2, .int s.2)] [.int o9, .int o7] 26
        refine g_icmp_ge (tgt := 33) C dX5_fewest_26 (by decide) (fun c11 => ?_) (fun c11 => ?_)
        · have hf := (f_if hf).1 c11
          refine g_iconst (v := (0 : Int32)) C dX5_fewest_33 (by decide) ?_
          exact h34 K5 hK5 (s.1, s.2, (0 : Int32)) hf
        · have hf := (f_if hf).2 c11
          exact h29 K5 hK5 (s.1, s.2) hf
  unfold f_X5_fewest at hf
  refine g_bipush (v := (-6 : Int32)) C dX5_fewest_0 (by decide) ?_
  refine g_istore_n (lv2 := [(1, .int (-6 : Int32)), (0, .ref (ax 0))]) C dX5_fewest_2 rfl (by decide) rfl ?_
  refine g_iconst (v := (0 : Int32)) C dX5_fewest_3 (by decide) ?_
  refine g_istore_n (lv2 := [(2, .int (0 : Int32)), (1, .int (-6 : Int32)), (0, .ref (ax 0))]) C dX5_fewest_4 rfl (by decide) rfl ?_
  refine g_sub (lv2 := [(0, .ref (ax 0)), (1, .int (-6 : Int32)), (2, .int (0 : Int32))]) [2, 1, 0] rfl ?_
  exact h5 N ((-6 : Int32), (0 : Int32)) hf
def f_X5_put (N : Nat) (Vp : Pd) (p0 : Int64) : Option (Int32 × Pd) := ((f_X1_charactersIn N Vp p0).bind fun o1 => (if o1 = 0 then some ((-2 : Int32), Vp) else (if o1 ≤ ((60 : Int32) - Vp.2) then ((f_X1_append N Vp p0 o1).bind fun o5 => some (o5.2, o5)) else some ((-4 : Int32), Vp))))
abbrev rm_X5_put : Room := { frames := 1, cells := 0, slots := 0, locals := 27 }
set_option maxRecDepth 100000 in
theorem k_X5_put : CF yX5_put cX5_put 4 (some .int) 1 := ⟨mt_540, mt_541, mt_1, mt_542, ⟨rfl, by decide +kernel, by decide +kernel, by decide +kernel⟩⟩
set_option maxHeartbeats 4000000 in
set_option maxRecDepth 100000 in
theorem c_X5_put {E : Ev} {ex1 : Nat} {ex2 : Nat} {ex3 : Nat} {ex4 : Nat} {ex5 : Nat} {ex6 : Nat} {ax : Nat → Nat} {ap : Nat → Nat} {Vp : Pd} {p0 : Int64} {N : Nat} {o : Int32 × Pd} (hf : f_X5_put N Vp p0 = some o) : ∀ l, MG l yX5_put cX5_put 4 (some .int) rm_X5_put E [.ref (ax 0), .long p0] [xo E ax (ap 0) ex1 ex2 ex3 ex4 ex5 ex6, pd E ap Vp] (fun v Y => v = some (.int o.1) ∧ Y = [xo E ax (ap 0) ex1 ex2 ex3 ex4 ex5 ex6, pd E ap o.2]) := by
  refine MG.mk (own := RX5) (lv0 := [(0, .ref (ax 0)), (1, .long p0)]) (by decide) rfl (Nat.le_of_ble_eq_true rfl) rfl (fun X C K I => ?_)
  unfold f_X5_put at hf
  refine g_aload_n C dX5_put_0 rfl 0 rfl ?_
  refine g_get (Cl := RX5) (T := TX5) (N := 7) C mi_X5 0 rfl (List.mem_of_getElem? (i := 0) rfl) rfl 0 (by decide) mt_297 rfl rfl dX5_put_1 ?_
  refine g_lload_n C dX5_put_4 rfl 1 rfl ?_
  obtain ⟨o1, hq2, hf⟩ := bind_s hf
  refine g_callV (As := [.long p0]) (rest := []) C k_X1_charactersIn (fun l => c_X1_charactersIn (E := E) (a := ap) (V := Vp) hq2 l) mt_543 [1] rfl (by decide) ⟨_, _, _, _, List.mem_flatten.mpr ⟨_, List.mem_of_getElem? (i := 1) rfl, List.mem_of_getElem? (i := 0) rfl⟩, rfl⟩ rfl (Nat.le_of_ble_eq_true rfl) ⟨Nat.le_of_ble_eq_true rfl, Nat.le_of_ble_eq_true rfl, Nat.le_of_ble_eq_true rfl, Nat.le_of_ble_eq_true rfl⟩ dX5_put_5 ?_
  rintro _ _ ⟨rfl, rfl⟩
  show G E X 4 [xo E ax (ap 0) ex1 ex2 ex3 ex4 ex5 ex6, pd E ap Vp] 0 0 [(0, .ref (ax 0)), (1, .long p0)] [.int o1] 8
  refine g_istore_n (lv2 := [(3, .int o1), (0, .ref (ax 0)), (1, .long p0)]) C dX5_put_8 rfl (by decide) rfl ?_
  refine g_iload_n C dX5_put_9 rfl 0 rfl ?_
  refine g_if_ne (tgt := 16) C dX5_put_10 (by decide) (fun c3 => ?_) (fun c3 => ?_)
  · have hf := (f_if hf).2 c3
    refine g_iload_n C dX5_put_16 rfl 0 rfl ?_
    refine g_bipush (v := (60 : Int32)) C dX5_put_17 (by decide) ?_
    refine g_aload_n C dX5_put_19 rfl 1 rfl ?_
    refine g_get (Cl := RX5) (T := TX5) (N := 7) C mi_X5 0 rfl (List.mem_of_getElem? (i := 0) rfl) rfl 0 (by decide) mt_297 rfl rfl dX5_put_20 ?_
    refine g_get (Cl := RX1) (T := TX1) (N := 2) C mi_X1 1 rfl (List.mem_of_getElem? (i := 0) rfl) rfl 1 (by decide) mt_32 rfl rfl dX5_put_23 ?_
    refine g_isub C dX5_put_26 ?_
    refine g_icmp_le (tgt := 33) C dX5_put_27 (by decide) (fun c4 => ?_) (fun c4 => ?_)
    · have hf := (f_if hf).1 c4
      refine g_aload_n C dX5_put_33 rfl 1 rfl ?_
      refine g_get (Cl := RX5) (T := TX5) (N := 7) C mi_X5 0 rfl (List.mem_of_getElem? (i := 0) rfl) rfl 0 (by decide) mt_297 rfl rfl dX5_put_34 ?_
      refine g_lload_n C dX5_put_37 rfl 2 rfl ?_
      refine g_iload_n C dX5_put_38 rfl 0 rfl ?_
      obtain ⟨o5, hq6, hf⟩ := bind_s hf
      refine g_callV (As := [.long p0, .int o1]) (rest := []) C k_X1_append (fun l => c_X1_append (E := E) (a := ap) (V := Vp) hq6 l) mt_550 [1] rfl (by decide) ⟨_, _, _, _, List.mem_flatten.mpr ⟨_, List.mem_of_getElem? (i := 1) rfl, List.mem_of_getElem? (i := 0) rfl⟩, rfl⟩ rfl (Nat.le_of_ble_eq_true rfl) ⟨Nat.le_of_ble_eq_true rfl, Nat.le_of_ble_eq_true rfl, Nat.le_of_ble_eq_true rfl, Nat.le_of_ble_eq_true rfl⟩ dX5_put_39 ?_
      rintro _ _ ⟨rfl, rfl⟩
      show G E X 4 [xo E ax (ap 0) ex1 ex2 ex3 ex4 ex5 ex6, pd E ap o5] 0 0 [(3, .int o1), (0, .ref (ax 0)), (1, .long p0)] [] 42
      refine g_aload_n C dX5_put_42 rfl 1 rfl ?_
      refine g_get (Cl := RX5) (T := TX5) (N := 7) C mi_X5 0 rfl (List.mem_of_getElem? (i := 0) rfl) rfl 0 (by decide) mt_297 rfl rfl dX5_put_43 ?_
      refine g_get (Cl := RX1) (T := TX1) (N := 2) C mi_X1 1 rfl (List.mem_of_getElem? (i := 0) rfl) rfl 1 (by decide) mt_32 rfl rfl dX5_put_46 ?_
      obtain rfl := Option.some.inj hf
      exact g_iret C K dX5_put_49 (Nat.le_of_ble_eq_true rfl) (Nat.le_of_ble_eq_true rfl) ⟨rfl, rfl⟩
    · have hf := (f_if hf).2 c4
      refine g_bipush (v := (-4 : Int32)) C dX5_put_30 (by decide) ?_
      obtain rfl := Option.some.inj hf
      exact g_iret C K dX5_put_32 (Nat.le_of_ble_eq_true rfl) (Nat.le_of_ble_eq_true rfl) ⟨rfl, rfl⟩
  · have hf := (f_if hf).1 c3
    refine g_bipush (v := (-2 : Int32)) C dX5_put_13 (by decide) ?_
    obtain rfl := Option.some.inj hf
    exact g_iret C K dX5_put_15 (Nat.le_of_ble_eq_true rfl) (Nat.le_of_ble_eq_true rfl) ⟨rfl, rfl⟩
def f_X5_fault (N : Nat) (Vp : Pd) : Option (Int32) := ((f_X1_findFault N Vp).bind fun o1 => some o1)
abbrev rm_X5_fault : Room := { frames := 3, cells := 0, slots := 0, locals := 66 }
set_option maxRecDepth 100000 in
theorem k_X5_fault : CF yX5_fault cX5_fault 1 (some .int) 0 := ⟨mt_498, mt_499, mt_1, mt_500, ⟨rfl, by decide +kernel, by decide +kernel, by decide +kernel⟩⟩
set_option maxHeartbeats 4000000 in
set_option maxRecDepth 100000 in
theorem c_X5_fault {E : Ev} {ex1 : Nat} {ex2 : Nat} {ex3 : Nat} {ex4 : Nat} {ex5 : Nat} {ex6 : Nat} {ax : Nat → Nat} {ap : Nat → Nat} {Vp : Pd} {N : Nat} {o : Int32} (hf : f_X5_fault N Vp = some o) : ∀ l, MG l yX5_fault cX5_fault 1 (some .int) rm_X5_fault E [.ref (ax 0)] [xo E ax (ap 0) ex1 ex2 ex3 ex4 ex5 ex6, pd E ap Vp] (fun v Y => v = some (.int o) ∧ Y = [xo E ax (ap 0) ex1 ex2 ex3 ex4 ex5 ex6, pd E ap Vp]) := by
  refine MG.mk (own := RX5) (lv0 := [(0, .ref (ax 0))]) (by decide) rfl (Nat.le_of_ble_eq_true rfl) rfl (fun X C K I => ?_)
  unfold f_X5_fault at hf
  refine g_aload_n C dX5_fault_0 rfl 0 rfl ?_
  refine g_get (Cl := RX5) (T := TX5) (N := 7) C mi_X5 0 rfl (List.mem_of_getElem? (i := 0) rfl) rfl 0 (by decide) mt_297 rfl rfl dX5_fault_1 ?_
  obtain ⟨o1, hq2, hf⟩ := bind_s hf
  refine g_callV (As := []) (rest := []) C k_X1_findFault (fun l => c_X1_findFault (E := E) (a := ap) (V := Vp) hq2 l) mt_501 [1] rfl (by decide) ⟨_, _, _, _, List.mem_flatten.mpr ⟨_, List.mem_of_getElem? (i := 1) rfl, List.mem_of_getElem? (i := 0) rfl⟩, rfl⟩ rfl (Nat.le_of_ble_eq_true rfl) ⟨Nat.le_of_ble_eq_true rfl, Nat.le_of_ble_eq_true rfl, Nat.le_of_ble_eq_true rfl, Nat.le_of_ble_eq_true rfl⟩ dX5_fault_4 ?_
  rintro _ _ ⟨rfl, rfl⟩
  show G E X 1 [xo E ax (ap 0) ex1 ex2 ex3 ex4 ex5 ex6, pd E ap Vp] 0 0 [(0, .ref (ax 0))] [.int o1] 7
  obtain rfl := Option.some.inj hf
  exact g_iret C K dX5_fault_7 (Nat.le_of_ble_eq_true rfl) (Nat.le_of_ble_eq_true rfl) ⟨rfl, rfl⟩
def f_X5_undo (Vn : St) (Vh : Hb) (Vk0 : St) (Vk1 : St) (Vk2 : St) (Vk3 : St) (Vk4 : St) (Vk5 : St) : Option (Int32 × St × Hb) := (if Vh.2 = 0 then some ((-5 : Int32), Vn, Vh) else ((f_X0_takeBack Vh Vk0 Vk1 Vk2 Vk3 Vk4 Vk5 Vn).bind fun o2 => some (o2.1.2, o2.2, o2.1)))
abbrev rm_X5_undo : Room := { frames := 3, cells := 0, slots := 0, locals := 62 }
set_option maxRecDepth 100000 in
theorem k_X5_undo : CF yX5_undo cX5_undo 1 (some .int) 0 := ⟨mt_614, mt_615, mt_1, mt_616, ⟨rfl, by decide +kernel, by decide +kernel, by decide +kernel⟩⟩
set_option maxHeartbeats 4000000 in
set_option maxRecDepth 100000 in
theorem c_X5_undo {E : Ev} {ex0 : Nat} {ex1 : Nat} {ex3 : Nat} {ex5 : Nat} {ex6 : Nat} {ax : Nat → Nat} {an : Nat → Nat} {Vn : St} {ah : Nat → Nat} {Vh : Hb} {ak0 : Nat → Nat} {Vk0 : St} {ak1 : Nat → Nat} {Vk1 : St} {ak2 : Nat → Nat} {Vk2 : St} {ak3 : Nat → Nat} {Vk3 : St} {ak4 : Nat → Nat} {Vk4 : St} {ak5 : Nat → Nat} {Vk5 : St} {o : Int32 × St × Hb} (hf : f_X5_undo Vn Vh Vk0 Vk1 Vk2 Vk3 Vk4 Vk5 = some o) : ∀ l, MG l yX5_undo cX5_undo 1 (some .int) rm_X5_undo E [.ref (ax 0)] [xo E ax ex0 ex1 (an 0) ex3 (ah 0) ex5 ex6, sc E an Vn, hb E ah (ak0 0) (ak1 0) (ak2 0) (ak3 0) (ak4 0) (ak5 0) Vh, sc E ak0 Vk0, sc E ak1 Vk1, sc E ak2 Vk2, sc E ak3 Vk3, sc E ak4 Vk4, sc E ak5 Vk5] (fun v Y => v = some (.int o.1) ∧ Y = [xo E ax ex0 ex1 (an 0) ex3 (ah 0) ex5 ex6, sc E an o.2.1, hb E ah (ak0 0) (ak1 0) (ak2 0) (ak3 0) (ak4 0) (ak5 0) o.2.2, sc E ak0 Vk0, sc E ak1 Vk1, sc E ak2 Vk2, sc E ak3 Vk3, sc E ak4 Vk4, sc E ak5 Vk5]) := by
  refine MG.mk (own := RX5) (lv0 := [(0, .ref (ax 0))]) (by decide) rfl (Nat.le_of_ble_eq_true rfl) rfl (fun X C K I => ?_)
  unfold f_X5_undo at hf
  refine g_aload_n C dX5_undo_0 rfl 0 rfl ?_
  refine g_get (Cl := RX5) (T := TX5) (N := 7) C mi_X5 0 rfl (List.mem_of_getElem? (i := 0) rfl) rfl 4 (by decide) mt_301 rfl rfl dX5_undo_1 ?_
  refine g_get (Cl := RX0) (T := TX0) (N := 3) C mi_X0 2 rfl (List.mem_of_getElem? (i := 0) rfl) rfl 2 (by decide) mt_289 rfl rfl dX5_undo_4 ?_
  refine g_if_ne (tgt := 13) C dX5_undo_7 (by decide) (fun c1 => ?_) (fun c1 => ?_)
  · have hf := (f_if hf).2 c1
    refine g_aload_n C dX5_undo_13 rfl 0 rfl ?_
    refine g_get (Cl := RX5) (T := TX5) (N := 7) C mi_X5 0 rfl (List.mem_of_getElem? (i := 0) rfl) rfl 4 (by decide) mt_301 rfl rfl dX5_undo_14 ?_
    refine g_aload_n C dX5_undo_17 rfl 0 rfl ?_
    refine g_get (Cl := RX5) (T := TX5) (N := 7) C mi_X5 0 rfl (List.mem_of_getElem? (i := 0) rfl) rfl 2 (by decide) mt_299 rfl rfl dX5_undo_18 ?_
    obtain ⟨o2, hq3, hf⟩ := bind_s hf
    refine g_callV (As := [.ref (an 0)]) (rest := []) C k_X0_takeBack (fun l => c_X0_takeBack (E := E) (ah := ah) (Vh := Vh) (ak0 := ak0) (Vk0 := Vk0) (ak1 := ak1) (Vk1 := Vk1) (ak2 := ak2) (Vk2 := Vk2) (ak3 := ak3) (Vk3 := Vk3) (ak4 := ak4) (Vk4 := Vk4) (ak5 := ak5) (Vk5 := Vk5) (aw := an) (Vw := Vn) hq3 l) mt_617 [2, 3, 4, 5, 6, 7, 8, 1] rfl (by decide) ⟨_, _, _, _, List.mem_flatten.mpr ⟨_, List.mem_of_getElem? (i := 2) rfl, List.mem_of_getElem? (i := 0) rfl⟩, rfl⟩ rfl (Nat.le_of_ble_eq_true rfl) ⟨Nat.le_of_ble_eq_true rfl, Nat.le_of_ble_eq_true rfl, Nat.le_of_ble_eq_true rfl, Nat.le_of_ble_eq_true rfl⟩ dX5_undo_21 ?_
    rintro _ _ ⟨rfl, rfl⟩
    show G E X 1 [xo E ax ex0 ex1 (an 0) ex3 (ah 0) ex5 ex6, sc E an o2.2, hb E ah (ak0 0) (ak1 0) (ak2 0) (ak3 0) (ak4 0) (ak5 0) o2.1, sc E ak0 Vk0, sc E ak1 Vk1, sc E ak2 Vk2, sc E ak3 Vk3, sc E ak4 Vk4, sc E ak5 Vk5] 0 0 [(0, .ref (ax 0))] [] 24
    refine g_aload_n C dX5_undo_24 rfl 0 rfl ?_
    refine g_get (Cl := RX5) (T := TX5) (N := 7) C mi_X5 0 rfl (List.mem_of_getElem? (i := 0) rfl) rfl 4 (by decide) mt_301 rfl rfl dX5_undo_25 ?_
    refine g_get (Cl := RX0) (T := TX0) (N := 3) C mi_X0 2 rfl (List.mem_of_getElem? (i := 0) rfl) rfl 2 (by decide) mt_289 rfl rfl dX5_undo_28 ?_
    obtain rfl := Option.some.inj hf
    exact g_iret C K dX5_undo_31 (Nat.le_of_ble_eq_true rfl) (Nat.le_of_ble_eq_true rfl) ⟨rfl, rfl⟩
  · have hf := (f_if hf).1 c1
    refine g_bipush (v := (-5 : Int32)) C dX5_undo_10 (by decide) ?_
    obtain rfl := Option.some.inj hf
    exact g_iret C K dX5_undo_12 (Nat.le_of_ble_eq_true rfl) (Nat.le_of_ble_eq_true rfl) ⟨rfl, rfl⟩
