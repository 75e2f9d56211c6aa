def b_L_cell_19 (L : Nat) (xs : Fn) (p1 : Int32) (s : Int32) : Option (Int32) := some s
def f_L_cell (L : Nat) (xs : Fn) (p1 : Int32) : Option (Int32) := (if (Int32.ofNat L) ≤ p1 then b_L_cell_19 L xs p1 (((32452867 : Int32) * p1) + (15485863 : Int32)) else (ix p1 L (b_L_cell_19 L xs p1 (xs (Int32.toNatClampNeg p1)))))
abbrev rm_L_cell : Room := { frames := 0, cells := 0, slots := 0, locals := 0 }
set_option maxRecDepth 100000 in
theorem k_L_cell : CFs yL_cell cL_cell 2 (some .int) 2 := ⟨mt_522, mt_0, mt_523, ⟨by decide +kernel, by decide +kernel, by decide +kernel⟩⟩
set_option maxHeartbeats 4000000 in
set_option maxRecDepth 100000 in
theorem c_L_cell {E : Ev} {L : Nat} {xs : Fn} (hsL : E.2.2.2.2.2.2.2.2.1 = L) (hsx : E.2.2.2.2.2.2.2.2.2 = xs) {p1 : Int32} {o : Int32} (hf : f_L_cell L xs p1 = some o) : ∀ l, MG l yL_cell cL_cell 2 (some .int) rm_L_cell E [.ref E.2.2.2.2.2.2.2.1, .int p1] [] (fun v Y => v = some (.int o) ∧ Y = []) := by
  refine MG.mk (own := RL) (lv0 := [(0, .ref E.2.2.2.2.2.2.2.1), (1, .int p1)]) (by decide) rfl (Nat.le_of_ble_eq_true rfl) rfl (fun X C K I => ?_)
  have h19 : ∀ s : Int32, b_L_cell_19 L xs p1 s = some o → G E X 2 [] 0 0 [] [.int s] 19 := by
    intro s hf
    unfold b_L_cell_19 at hf
    obtain rfl := Option.some.inj hf
    exact g_iret C K dL_cell_19 (Nat.le_of_ble_eq_true rfl) (Nat.le_of_ble_eq_true rfl) ⟨rfl, rfl⟩
  unfold f_L_cell at hf
  refine g_iload_n C dL_cell_0 rfl 1 rfl ?_
  refine g_aload_n C dL_cell_1 rfl 0 rfl ?_
  refine g_slen C hsL hsx dL_cell_2 ?_
  refine g_icmp_ge (tgt := 12) C dL_cell_3 (by decide) (fun c1 => ?_) (fun c1 => ?_)
  · have hf := (f_if hf).1 c1
    refine g_ldc C mt_524 dL_cell_12 ?_
    refine g_iload_n C dL_cell_14 rfl 1 rfl ?_
    refine g_imul C dL_cell_15 ?_
    refine g_ldc C mt_525 dL_cell_16 ?_
    refine g_iadd C dL_cell_18 ?_
    refine g_sub (lv2 := []) [] rfl ?_
    exact h19 (((32452867 : Int32) * p1) + (15485863 : Int32)) hf
  · have hf := (f_if hf).2 c1
    refine g_aload_n C dL_cell_6 rfl 0 rfl ?_
    refine g_iload_n C dL_cell_7 rfl 1 rfl ?_
    obtain ⟨i2, hf⟩ := ix_s hf
    refine g_sld C hsL hsx i2 dL_cell_8 ?_
    refine g_goto (tgt := 19) C dL_cell_9 (by decide) ?_
    refine g_sub (lv2 := []) [] rfl ?_
    exact h19 (xs (Int32.toNatClampNeg p1)) hf
def f_L_low (p0 : Int32) (p1 : Int32) : Option (Int32) := (nz p1 (some ((p0 &&& (2147483647 : Int32)) - (p0 &&& (2147483647 : Int32)) / p1 * p1)))
abbrev rm_L_low : Room := { frames := 0, cells := 0, slots := 0, locals := 0 }
set_option maxRecDepth 100000 in
theorem k_L_low : CFs yL_low cL_low 2 (some .int) 2 := ⟨mt_527, mt_0, mt_528, ⟨by decide +kernel, by decide +kernel, by decide +kernel⟩⟩
set_option maxHeartbeats 4000000 in
set_option maxRecDepth 100000 in
theorem c_L_low {E : Ev} {p0 : Int32} {p1 : Int32} {o : Int32} (hf : f_L_low p0 p1 = some o) : ∀ l, MG l yL_low cL_low 2 (some .int) rm_L_low E [.int p0, .int p1] [] (fun v Y => v = some (.int o) ∧ Y = []) := by
  refine MG.mk (own := RL) (lv0 := [(0, .int p0), (1, .int p1)]) (by decide) rfl (Nat.le_of_ble_eq_true rfl) rfl (fun X C K I => ?_)
  unfold f_L_low at hf
  refine g_iload_n C dL_low_0 rfl 0 rfl ?_
  refine g_ldc C mt_529 dL_low_1 ?_
  refine g_iand C dL_low_3 ?_
  refine g_iload_n C dL_low_4 rfl 1 rfl ?_
  obtain ⟨z1, hf⟩ := nz_s hf
  refine g_irem C dL_low_5 z1 ?_
  obtain rfl := Option.some.inj hf
  exact g_iret C K dL_low_6 (Nat.le_of_ble_eq_true rfl) (Nat.le_of_ble_eq_true rfl) ⟨rfl, rfl⟩
def f_L_rows (p0 : Int32) : Option (Int32) := ((f_L_low p0 (3 : Int32)).bind fun o1 => some ((1 : Int32) + o1))
abbrev rm_L_rows : Room := { frames := 1, cells := 0, slots := 0, locals := 21 }
set_option maxRecDepth 100000 in
theorem k_L_rows : CFs yL_rows cL_rows 1 (some .int) 1 := ⟨mt_534, mt_0, mt_535, ⟨by decide +kernel, by decide +kernel, by decide +kernel⟩⟩
set_option maxHeartbeats 4000000 in
set_option maxRecDepth 100000 in
theorem c_L_rows {E : Ev} {p0 : Int32} {o : Int32} (hf : f_L_rows p0 = some o) : ∀ l, MG l yL_rows cL_rows 1 (some .int) rm_L_rows E [.int p0] [] (fun v Y => v = some (.int o) ∧ Y = []) := by
  refine MG.mk (own := RL) (lv0 := [(0, .int p0)]) (by decide) rfl (Nat.le_of_ble_eq_true rfl) rfl (fun X C K I => ?_)
  unfold f_L_rows at hf
  refine g_iconst (v := (1 : Int32)) C dL_rows_0 (by decide) ?_
  refine g_iload_n C dL_rows_1 rfl 0 rfl ?_
  refine g_iconst (v := (3 : Int32)) C dL_rows_2 (by decide) ?_
  obtain ⟨o1, hq2, hf⟩ := bind_s hf
  refine g_callS (As := [.int p0, .int (3 : Int32)]) (rest := [.int (1 : Int32)]) C k_L_low (fun l => c_L_low (E := E) hq2 l) mt_526 [] rfl (by decide) rfl (Nat.le_of_ble_eq_true rfl) ⟨Nat.le_of_ble_eq_true rfl, Nat.le_of_ble_eq_true rfl, Nat.le_of_ble_eq_true rfl, Nat.le_of_ble_eq_true rfl⟩ dL_rows_3 ?_
  rintro _ _ ⟨rfl, rfl⟩
  show G E X 1 [] 0 0 [(0, .int p0)] [.int o1, .int (1 : Int32)] 6
  refine g_iadd C dL_rows_6 ?_
  obtain rfl := Option.some.inj hf
  exact g_iret C K dL_rows_7 (Nat.le_of_ble_eq_true rfl) (Nat.le_of_ble_eq_true rfl) ⟨rfl, rfl⟩
def b_L_partsOf_18 (p0 : Int32) (p1 : Int32) (s : Int32 × Int32 × Int32) : Option (Int32) := ((f_L_low s.2.1 s.2.2).bind fun o1 => some (s.1 + o1))
def f_L_partsOf (p0 : Int32) (p1 : Int32) : Option (Int32) := (if p1 = (2 : Int32) then b_L_partsOf_18 p0 p1 ((1 : Int32), (p0 >>> (((2 : Int32) + ((2 : Int32) * p1)) &&& 31)), (2 : Int32)) else b_L_partsOf_18 p0 p1 ((1 : Int32), (p0 >>> (((2 : Int32) + ((2 : Int32) * p1)) &&& 31)), (3 : Int32)))
abbrev rm_L_partsOf : Room := { frames := 1, cells := 0, slots := 0, locals := 21 }
set_option maxRecDepth 100000 in
theorem k_L_partsOf : CFs yL_partsOf cL_partsOf 2 (some .int) 2 := ⟨mt_555, mt_0, mt_556, ⟨by decide +kernel, by decide +kernel, by decide +kernel⟩⟩
set_option maxHeartbeats 4000000 in
set_option maxRecDepth 100000 in
theorem c_L_partsOf {E : Ev} {p0 : Int32} {p1 : Int32} {o : Int32} (hf : f_L_partsOf p0 p1 = some o) : ∀ l, MG l yL_partsOf cL_partsOf 2 (some .int) rm_L_partsOf E [.int p0, .int p1] [] (fun v Y => v = some (.int o) ∧ Y = []) := by
  refine MG.mk (own := RL) (lv0 := [(0, .int p0), (1, .int p1)]) (by decide) rfl (Nat.le_of_ble_eq_true rfl) rfl (fun X C K I => ?_)
  have h18 : ∀ s : Int32 × Int32 × Int32, b_L_partsOf_18 p0 p1 s = some o → G E X 2 [] 0 0 [] [.int s.2.2, .int s.2.1, .int s.1] 18 := by
    intro s hf
    unfold b_L_partsOf_18 at hf
    obtain ⟨o1, hq2, hf⟩ := bind_s hf
    refine g_callS (As := [.int s.2.1, .int s.2.2]) (rest := [.int s.1]) C k_L_low (fun l => c_L_low (E := E) hq2 l) mt_526 [] rfl (by decide) rfl (Nat.le_of_ble_eq_true rfl) ⟨Nat.le_of_ble_eq_true rfl, Nat.le_of_ble_eq_true rfl, Nat.le_of_ble_eq_true rfl, Nat.le_of_ble_eq_true rfl⟩ dL_partsOf_18 ?_
    rintro _ _ ⟨rfl, rfl⟩
    show G E X 2 [] 0 0 [] [.int o1, .int s.1] 21
    refine g_iadd C dL_partsOf_21 ?_
    obtain rfl := Option.some.inj hf
    exact g_iret C K dL_partsOf_22 (Nat.le_of_ble_eq_true rfl) (Nat.le_of_ble_eq_true rfl) ⟨rfl, rfl⟩
  unfold f_L_partsOf at hf
  refine g_iconst (v := (1 : Int32)) C dL_partsOf_0 (by decide) ?_
  refine g_iload_n C dL_partsOf_1 rfl 0 rfl ?_
  refine g_iconst (v := (2 : Int32)) C dL_partsOf_2 (by decide) ?_
  refine g_iconst (v := (2 : Int32)) C dL_partsOf_3 (by decide) ?_
  refine g_iload_n C dL_partsOf_4 rfl 1 rfl ?_
  refine g_imul C dL_partsOf_5 ?_
  refine g_iadd C dL_partsOf_6 ?_
  refine g_ishr C dL_partsOf_7 ?_
  refine g_iload_n C dL_partsOf_8 rfl 1 rfl ?_
  refine g_iconst (v := (2 : Int32)) C dL_partsOf_9 (by decide) ?_
  refine g_icmp_ne (tgt := 17) C dL_partsOf_10 (by decide) (fun c3 => ?_) (fun c3 => ?_)
  · have hf := (f_if hf).2 c3
    refine g_iconst (v := (3 : Int32)) C dL_partsOf_17 (by decide) ?_
    refine g_sub (lv2 := []) [] rfl ?_
    exact h18 ((1 : Int32), (p0 >>> (((2 : Int32) + ((2 : Int32) * p1)) &&& 31)), (3 : Int32)) hf
  · have hf := (f_if hf).1 c3
    refine g_iconst (v := (2 : Int32)) C dL_partsOf_13 (by decide) ?_
    refine g_goto (tgt := 18) C dL_partsOf_14 (by decide) ?_
    refine g_sub (lv2 := []) [] rfl ?_
    exact h18 ((1 : Int32), (p0 >>> (((2 : Int32) + ((2 : Int32) * p1)) &&& 31)), (2 : Int32)) hf
def f_L_part (p0 : Int32) (p1 : Int32) (p2 : Int32) : Option (Int32) := some (((((p0 >>> ((8 : Int32) &&& 31)) * (31 : Int32)) + (p0 >>> ((13 : Int32) &&& 31))) + ((1021 : Int32) * (((3 : Int32) * p1) + p2))) ^^^ (p0 >>> ((((3 : Int32) * p2) + p1) &&& 31)))
abbrev rm_L_part : Room := { frames := 0, cells := 0, slots := 0, locals := 0 }
set_option maxRecDepth 100000 in
theorem k_L_part : CFs yL_part cL_part 3 (some .int) 3 := ⟨mt_558, mt_0, mt_559, ⟨by decide +kernel, by decide +kernel, by decide +kernel⟩⟩
set_option maxHeartbeats 4000000 in
set_option maxRecDepth 100000 in
theorem c_L_part {E : Ev} {p0 : Int32} {p1 : Int32} {p2 : Int32} {o : Int32} (hf : f_L_part p0 p1 p2 = some o) : ∀ l, MG l yL_part cL_part 3 (some .int) rm_L_part E [.int p0, .int p1, .int p2] [] (fun v Y => v = some (.int o) ∧ Y = []) := by
  refine MG.mk (own := RL) (lv0 := [(0, .int p0), (1, .int p1), (2, .int p2)]) (by decide) rfl (Nat.le_of_ble_eq_true rfl) rfl (fun X C K I => ?_)
  unfold f_L_part at hf
  refine g_iload_n C dL_part_0 rfl 0 rfl ?_
  refine g_bipush (v := (8 : Int32)) C dL_part_1 (by decide) ?_
  refine g_ishr C dL_part_3 ?_
  refine g_bipush (v := (31 : Int32)) C dL_part_4 (by decide) ?_
  refine g_imul C dL_part_6 ?_
  refine g_iload_n C dL_part_7 rfl 0 rfl ?_
  refine g_bipush (v := (13 : Int32)) C dL_part_8 (by decide) ?_
  refine g_ishr C dL_part_10 ?_
  refine g_iadd C dL_part_11 ?_
  refine g_sipush (v := (1021 : Int32)) C dL_part_12 (by decide) ?_
  refine g_iconst (v := (3 : Int32)) C dL_part_15 (by decide) ?_
  refine g_iload_n C dL_part_16 rfl 1 rfl ?_
  refine g_imul C dL_part_17 ?_
  refine g_iload_n C dL_part_18 rfl 2 rfl ?_
  refine g_iadd C dL_part_19 ?_
  refine g_imul C dL_part_20 ?_
  refine g_iadd C dL_part_21 ?_
  refine g_iload_n C dL_part_22 rfl 0 rfl ?_
  refine g_iconst (v := (3 : Int32)) C dL_part_23 (by decide) ?_
  refine g_iload_n C dL_part_24 rfl 2 rfl ?_
  refine g_imul C dL_part_25 ?_
  refine g_iload_n C dL_part_26 rfl 1 rfl ?_
  refine g_iadd C dL_part_27 ?_
  refine g_ishr C dL_part_28 ?_
  refine g_ixor C dL_part_29 ?_
  obtain rfl := Option.some.inj hf
  exact g_iret C K dL_part_30 (Nat.le_of_ble_eq_true rfl) (Nat.le_of_ble_eq_true rfl) ⟨rfl, rfl⟩
def b_L_letter_25 (p0 : Int32) (s : Int32) : Option (Int32) := some s
def f_L_letter (p0 : Int32) : Option (Int32) := ((f_L_low p0 (8 : Int32)).bind fun o1 => (if (4 : Int32) ≤ o1 then b_L_letter_25 p0 (((65 : Int32) + o1) - (4 : Int32)) else b_L_letter_25 p0 ((97 : Int32) + o1)))
abbrev rm_L_letter : Room := { frames := 1, cells := 0, slots := 0, locals := 21 }
set_option maxRecDepth 100000 in
theorem k_L_letter : CFs yL_letter cL_letter 2 (some .int) 1 := ⟨mt_567, mt_0, mt_568, ⟨by decide +kernel, by decide +kernel, by decide +kernel⟩⟩
set_option maxHeartbeats 4000000 in
set_option maxRecDepth 100000 in
theorem c_L_letter {E : Ev} {p0 : Int32} {o : Int32} (hf : f_L_letter p0 = some o) : ∀ l, MG l yL_letter cL_letter 2 (some .int) rm_L_letter E [.int p0] [] (fun v Y => v = some (.int o) ∧ Y = []) := by
  refine MG.mk (own := RL) (lv0 := [(0, .int p0)]) (by decide) rfl (Nat.le_of_ble_eq_true rfl) rfl (fun X C K I => ?_)
  have h25 : ∀ s : Int32, b_L_letter_25 p0 s = some o → G E X 2 [] 0 0 [] [.int s] 25 := by
    intro s hf
    unfold b_L_letter_25 at hf
    obtain rfl := Option.some.inj hf
    exact g_iret C K dL_letter_25 (Nat.le_of_ble_eq_true rfl) (Nat.le_of_ble_eq_true rfl) ⟨rfl, rfl⟩
  unfold f_L_letter at hf
  refine g_iload_n C dL_letter_0 rfl 0 rfl ?_
  refine g_bipush (v := (8 : Int32)) C dL_letter_1 (by decide) ?_
  obtain ⟨o1, hq2, hf⟩ := bind_s hf
  refine g_callS (As := [.int p0, .int (8 : Int32)]) (rest := []) C k_L_low (fun l => c_L_low (E := E) hq2 l) mt_526 [] rfl (by decide) rfl (Nat.le_of_ble_eq_true rfl) ⟨Nat.le_of_ble_eq_true rfl, Nat.le_of_ble_eq_true rfl, Nat.le_of_ble_eq_true rfl, Nat.le_of_ble_eq_true rfl⟩ dL_letter_3 ?_
  rintro _ _ ⟨rfl, rfl⟩
  show G E X 2 [] 0 0 [(0, .int p0)] [.int o1] 6
  refine g_istore_n (lv2 := [(1, .int o1), (0, .int p0)]) C dL_letter_6 rfl (by decide) rfl ?_
  refine g_iload_n C dL_letter_7 rfl 0 rfl ?_
  refine g_iconst (v := (4 : Int32)) C dL_letter_8 (by decide) ?_
  refine g_icmp_ge (tgt := 19) C dL_letter_9 (by decide) (fun c3 => ?_) (fun c3 => ?_)
  · have hf := (f_if hf).1 c3
    refine g_bipush (v := (65 : Int32)) C dL_letter_19 (by decide) ?_
    refine g_iload_n C dL_letter_21 rfl 0 rfl ?_
    refine g_iadd C dL_letter_22 ?_
    refine g_iconst (v := (4 : Int32)) C dL_letter_23 (by decide) ?_
    refine g_isub C dL_letter_24 ?_
    refine g_sub (lv2 := []) [] rfl ?_
    exact h25 (((65 : Int32) + o1) - (4 : Int32)) hf
  · have hf := (f_if hf).2 c3
    refine g_bipush (v := (97 : Int32)) C dL_letter_12 (by decide) ?_
    refine g_iload_n C dL_letter_14 rfl 0 rfl ?_
    refine g_iadd C dL_letter_15 ?_
    refine g_goto (tgt := 25) C dL_letter_16 (by decide) ?_
    refine g_sub (lv2 := []) [] rfl ?_
    exact h25 ((97 : Int32) + o1) hf
def b_L_isNot_15 (p0 : Int32) (s : Int32) : Option (Int32) := (zb s (some s))
def f_L_isNot (p0 : Int32) : Option (Int32) := ((f_L_low (p0 >>> ((3 : Int32) &&& 31)) (3 : Int32)).bind fun o2 => (if o2 = 0 then b_L_isNot_15 p0 (1 : Int32) else b_L_isNot_15 p0 (0 : Int32)))
abbrev rm_L_isNot : Room := { frames := 1, cells := 0, slots := 0, locals := 21 }
set_option maxRecDepth 100000 in
theorem k_L_isNot : CFs yL_isNot cL_isNot 1 (some .boolean) 1 := ⟨mt_561, mt_0, mt_562, ⟨by decide +kernel, by decide +kernel, by decide +kernel⟩⟩
set_option maxHeartbeats 4000000 in
set_option maxRecDepth 100000 in
theorem c_L_isNot {E : Ev} {p0 : Int32} {o : Int32} (hf : f_L_isNot p0 = some o) : ∀ l, MG l yL_isNot cL_isNot 1 (some .boolean) rm_L_isNot E [.int p0] [] (fun v Y => v = some (.int o) ∧ Y = []) := by
  refine MG.mk (own := RL) (lv0 := [(0, .int p0)]) (by decide) rfl (Nat.le_of_ble_eq_true rfl) rfl (fun X C K I => ?_)
  have h15 : ∀ s : Int32, b_L_isNot_15 p0 s = some o → G E X 1 [] 0 0 [] [.int s] 15 := by
    intro s hf
    unfold b_L_isNot_15 at hf
    obtain ⟨z1, hf⟩ := zb_s hf
    obtain rfl := Option.some.inj hf
    exact g_zret C K z1 dL_isNot_15 (Nat.le_of_ble_eq_true rfl) (Nat.le_of_ble_eq_true rfl) ⟨rfl, rfl⟩
  unfold f_L_isNot at hf
  refine g_iload_n C dL_isNot_0 rfl 0 rfl ?_
  refine g_iconst (v := (3 : Int32)) C dL_isNot_1 (by decide) ?_
  refine g_ishr C dL_isNot_2 ?_
  refine g_iconst (v := (3 : Int32)) C dL_isNot_3 (by decide) ?_
  obtain ⟨o2, hq3, hf⟩ := bind_s hf
  refine g_callS (As := [.int (p0 >>> ((3 : Int32) &&& 31)), .int (3 : Int32)]) (rest := []) C k_L_low (fun l => c_L_low (E := E) hq3 l) mt_526 [] rfl (by decide) rfl (Nat.le_of_ble_eq_true rfl) ⟨Nat.le_of_ble_eq_true rfl, Nat.le_of_ble_eq_true rfl, Nat.le_of_ble_eq_true rfl, Nat.le_of_ble_eq_true rfl⟩ dL_isNot_4 ?_
  rintro _ _ ⟨rfl, rfl⟩
  show G E X 1 [] 0 0 [(0, .int p0)] [.int o2] 7
  refine g_if_ne (tgt := 14) C dL_isNot_7 (by decide) (fun c4 => ?_) (fun c4 => ?_)
  · have hf := (f_if hf).2 c4
    refine g_iconst (v := (0 : Int32)) C dL_isNot_14 (by decide) ?_
    refine g_sub (lv2 := []) [] rfl ?_
    exact h15 (0 : Int32) hf
  · have hf := (f_if hf).1 c4
    refine g_iconst (v := (1 : Int32)) C dL_isNot_10 (by decide) ?_
    refine g_goto (tgt := 15) C dL_isNot_11 (by decide) ?_
    refine g_sub (lv2 := []) [] rfl ?_
    exact h15 (1 : Int32) hf
def b_L_isTwo_15 (p0 : Int32) (s : Int32) : Option (Int32) := (zb s (some s))
def f_L_isTwo (p0 : Int32) : Option (Int32) := ((f_L_low (p0 >>> ((5 : Int32) &&& 31)) (3 : Int32)).bind fun o2 => (if o2 = 0 then b_L_isTwo_15 p0 (1 : Int32) else b_L_isTwo_15 p0 (0 : Int32)))
abbrev rm_L_isTwo : Room := { frames := 1, cells := 0, slots := 0, locals := 21 }
set_option maxRecDepth 100000 in
theorem k_L_isTwo : CFs yL_isTwo cL_isTwo 1 (some .boolean) 1 := ⟨mt_564, mt_0, mt_565, ⟨by decide +kernel, by decide +kernel, by decide +kernel⟩⟩
set_option maxHeartbeats 4000000 in
set_option maxRecDepth 100000 in
theorem c_L_isTwo {E : Ev} {p0 : Int32} {o : Int32} (hf : f_L_isTwo p0 = some o) : ∀ l, MG l yL_isTwo cL_isTwo 1 (some .boolean) rm_L_isTwo E [.int p0] [] (fun v Y => v = some (.int o) ∧ Y = []) := by
  refine MG.mk (own := RL) (lv0 := [(0, .int p0)]) (by decide) rfl (Nat.le_of_ble_eq_true rfl) rfl (fun X C K I => ?_)
  have h15 : ∀ s : Int32, b_L_isTwo_15 p0 s = some o → G E X 1 [] 0 0 [] [.int s] 15 := by
    intro s hf
    unfold b_L_isTwo_15 at hf
    obtain ⟨z1, hf⟩ := zb_s hf
    obtain rfl := Option.some.inj hf
    exact g_zret C K z1 dL_isTwo_15 (Nat.le_of_ble_eq_true rfl) (Nat.le_of_ble_eq_true rfl) ⟨rfl, rfl⟩
  unfold f_L_isTwo at hf
  refine g_iload_n C dL_isTwo_0 rfl 0 rfl ?_
  refine g_iconst (v := (5 : Int32)) C dL_isTwo_1 (by decide) ?_
  refine g_ishr C dL_isTwo_2 ?_
  refine g_iconst (v := (3 : Int32)) C dL_isTwo_3 (by decide) ?_
  obtain ⟨o2, hq3, hf⟩ := bind_s hf
  refine g_callS (As := [.int (p0 >>> ((5 : Int32) &&& 31)), .int (3 : Int32)]) (rest := []) C k_L_low (fun l => c_L_low (E := E) hq3 l) mt_526 [] rfl (by decide) rfl (Nat.le_of_ble_eq_true rfl) ⟨Nat.le_of_ble_eq_true rfl, Nat.le_of_ble_eq_true rfl, Nat.le_of_ble_eq_true rfl, Nat.le_of_ble_eq_true rfl⟩ dL_isTwo_4 ?_
  rintro _ _ ⟨rfl, rfl⟩
  show G E X 1 [] 0 0 [(0, .int p0)] [.int o2] 7
  refine g_if_ne (tgt := 14) C dL_isTwo_7 (by decide) (fun c4 => ?_) (fun c4 => ?_)
  · have hf := (f_if hf).2 c4
    refine g_iconst (v := (0 : Int32)) C dL_isTwo_14 (by decide) ?_
    refine g_sub (lv2 := []) [] rfl ?_
    exact h15 (0 : Int32) hf
  · have hf := (f_if hf).1 c4
    refine g_iconst (v := (1 : Int32)) C dL_isTwo_10 (by decide) ?_
    refine g_goto (tgt := 15) C dL_isTwo_11 (by decide) ?_
    refine g_sub (lv2 := []) [] rfl ?_
    exact h15 (1 : Int32) hf
def b_L_isSo_103 (p0 : Int32) (p1 : Int32) (s : Int32) : Option (Int32) := (zb s (some s))
def b_L_isSo_98 (p0 : Int32) (p1 : Int32) (s : Unit) : Option (Int32) := b_L_isSo_103 p0 p1 (1 : Int32)
def b_L_isSo_84 (p0 : Int32) (p1 : Int32) (s : Unit) : Option (Int32) := b_L_isSo_103 p0 p1 (0 : Int32)
def b_L_isSo_64 (p0 : Int32) (p1 : Int32) (s : Int32 × Int32 × Int32) : Option (Int32) := (if s.1 = 0 then (if s.2.1 = 0 then (if s.2.2 = 0 then b_L_isSo_103 p0 p1 (0 : Int32) else b_L_isSo_98 p0 p1 ()) else b_L_isSo_98 p0 p1 ()) else (if s.2.1 = 0 then b_L_isSo_84 p0 p1 () else (if s.2.2 = 0 then b_L_isSo_84 p0 p1 () else b_L_isSo_103 p0 p1 (1 : Int32))))
def b_L_isSo_44 (p0 : Int32) (p1 : Int32) (s : Int32 × Int32 × Int32) : Option (Int32) := (if ((p1 >>> ((((2 : Int32) * s.2.1) + (1 : Int32)) &&& 31)) &&& (1 : Int32)) = (1 : Int32) then b_L_isSo_64 p0 p1 (s.1, s.2.2, (1 : Int32)) else b_L_isSo_64 p0 p1 (s.1, s.2.2, (0 : Int32)))
def b_L_isSo_27 (p0 : Int32) (p1 : Int32) (s : Int32 × Int32) : Option (Int32) := (if ((p1 >>> (((2 : Int32) * s.2) &&& 31)) &&& (1 : Int32)) = (1 : Int32) then b_L_isSo_44 p0 p1 (s.1, s.2, (1 : Int32)) else b_L_isSo_44 p0 p1 (s.1, s.2, (0 : Int32)))
def b_L_isSo_11 (p0 : Int32) (p1 : Int32) (s : Int32) : Option (Int32) := (if s = 0 then b_L_isSo_27 p0 p1 (s, (p0 - (97 : Int32))) else b_L_isSo_27 p0 p1 (s, (p0 - (65 : Int32))))
def f_L_isSo (p0 : Int32) (p1 : Int32) : Option (Int32) := (if (97 : Int32) ≤ p0 then b_L_isSo_11 p0 p1 (0 : Int32) else b_L_isSo_11 p0 p1 (1 : Int32))
abbrev rm_L_isSo : Room := { frames := 0, cells := 0, slots := 0, locals := 0 }
set_option maxRecDepth 100000 in
theorem k_L_isSo : CFs yL_isSo cL_isSo 6 (some .boolean) 2 := ⟨mt_579, mt_0, mt_580, ⟨by decide +kernel, by decide +kernel, by decide +kernel⟩⟩
set_option maxHeartbeats 4000000 in
set_option maxRecDepth 100000 in
theorem c_L_isSo {E : Ev} {p0 : Int32} {p1 : Int32} {o : Int32} (hf : f_L_isSo p0 p1 = some o) : ∀ l, MG l yL_isSo cL_isSo 6 (some .boolean) rm_L_isSo E [.int p0, .int p1] [] (fun v Y => v = some (.int o) ∧ Y = []) := by
  refine MG.mk (own := RL) (lv0 := [(0, .int p0), (1, .int p1)]) (by decide) rfl (Nat.le_of_ble_eq_true rfl) rfl (fun X C K I => ?_)
  have h103 : ∀ s : Int32, b_L_isSo_103 p0 p1 s = some o → G E X 6 [] 0 0 [] [.int s] 103 := by
    intro s hf
    unfold b_L_isSo_103 at hf
    obtain ⟨z1, hf⟩ := zb_s hf
    obtain rfl := Option.some.inj hf
    exact g_zret C K z1 dL_isSo_103 (Nat.le_of_ble_eq_true rfl) (Nat.le_of_ble_eq_true rfl) ⟨rfl, rfl⟩
  have h98 : ∀ s : Unit, b_L_isSo_98 p0 p1 s = some o → G E X 6 [] 0 0 [] [] 98 := by
    intro s hf
    unfold b_L_isSo_98 at hf
    refine g_iconst (v := (1 : Int32)) C dL_isSo_98 (by decide) ?_
    refine g_goto (tgt := 103) C dL_isSo_99 (by decide) ?_
    exact h103 (1 : Int32) hf
  have h84 : ∀ s : Unit, b_L_isSo_84 p0 p1 s = some o → G E X 6 [] 0 0 [] [] 84 := by
    intro s hf
    unfold b_L_isSo_84 at hf
    refine g_iconst (v := (0 : Int32)) C dL_isSo_84 (by decide) ?_
    refine g_goto (tgt := 103) C dL_isSo_85 (by decide) ?_
    exact h103 (0 : Int32) hf
  have h64 : ∀ s : Int32 × Int32 × Int32, b_L_isSo_64 p0 p1 s = some o → G E X 6 [] 0 0 [(2, .int s.1), (4, .int s.2.1)] [.int s.2.2] 64 := by
    intro s hf
    unfold b_L_isSo_64 at hf
    refine g_istore (lv2 := [(5, .int s.2.2), (2, .int s.1), (4, .int s.2.1)]) C dL_isSo_64 (by decide) rfl ?_
    refine g_iload_n C dL_isSo_66 rfl 1 rfl ?_
    refine g_if_eq (tgt := 88) C dL_isSo_67 (by decide) (fun c2 => ?_) (fun c2 => ?_)
    · have hf := (f_if hf).1 c2
      refine g_iload C dL_isSo_88 2 rfl ?_
      refine g_if_ne (tgt := 98) C dL_isSo_90 (by decide) (fun c3 => ?_) (fun c3 => ?_)
      · have hf := (f_if hf).2 c3
        refine g_sub (lv2 := []) [] rfl ?_
        exact h98 () hf
      · have hf := (f_if hf).1 c3
        refine g_iload C dL_isSo_93 0 rfl ?_
        refine g_if_eq (tgt := 102) C dL_isSo_95 (by decide) (fun c4 => ?_) (fun c4 => ?_)
        · have hf := (f_if hf).1 c4
          refine g_iconst (v := (0 : Int32)) C dL_isSo_102 (by decide) ?_
          refine g_sub (lv2 := []) [] rfl ?_
          exact h103 (0 : Int32) hf
        · have hf := (f_if hf).2 c4
          refine g_sub (lv2 := []) [] rfl ?_
          exact h98 () hf
    · have hf := (f_if hf).2 c2
      refine g_iload C dL_isSo_70 2 rfl ?_
      refine g_if_eq (tgt := 84) C dL_isSo_72 (by decide) (fun c5 => ?_) (fun c5 => ?_)
      · have hf := (f_if hf).1 c5
        refine g_sub (lv2 := []) [] rfl ?_
        exact h84 () hf
      · have hf := (f_if hf).2 c5
        refine g_iload C dL_isSo_75 0 rfl ?_
        refine g_if_eq (tgt := 84) C dL_isSo_77 (by decide) (fun c6 => ?_) (fun c6 => ?_)
        · have hf := (f_if hf).1 c6
          refine g_sub (lv2 := []) [] rfl ?_
          exact h84 () hf
        · have hf := (f_if hf).2 c6
          refine g_iconst (v := (1 : Int32)) C dL_isSo_80 (by decide) ?_
          refine g_goto (tgt := 103) C dL_isSo_81 (by decide) ?_
          refine g_sub (lv2 := []) [] rfl ?_
          exact h103 (1 : Int32) hf
  have h44 : ∀ s : Int32 × Int32 × Int32, b_L_isSo_44 p0 p1 s = some o → G E X 6 [] 0 0 [(1, .int p1), (2, .int s.1), (3, .int s.2.1)] [.int s.2.2] 44 := by
    intro s hf
    unfold b_L_isSo_44 at hf
    refine g_istore (lv2 := [(4, .int s.2.2), (1, .int p1), (2, .int s.1), (3, .int s.2.1)]) C dL_isSo_44 (by decide) rfl ?_
    refine g_iload_n C dL_isSo_46 rfl 1 rfl ?_
    refine g_iconst (v := (2 : Int32)) C dL_isSo_47 (by decide) ?_
    refine g_iload_n C dL_isSo_48 rfl 3 rfl ?_
    refine g_imul C dL_isSo_49 ?_
    refine g_iconst (v := (1 : Int32)) C dL_isSo_50 (by decide) ?_
    refine g_iadd C dL_isSo_51 ?_
    refine g_ishr C dL_isSo_52 ?_
    refine g_iconst (v := (1 : Int32)) C dL_isSo_53 (by decide) ?_
    refine g_iand C dL_isSo_54 ?_
    refine g_iconst (v := (1 : Int32)) C dL_isSo_55 (by decide) ?_
    refine g_icmp_ne (tgt := 63) C dL_isSo_56 (by decide) (fun c7 => ?_) (fun c7 => ?_)
    · have hf := (f_if hf).2 c7
      refine g_iconst (v := (0 : Int32)) C dL_isSo_63 (by decide) ?_
      refine g_sub (lv2 := [(2, .int s.1), (4, .int s.2.2)]) [2, 0] rfl ?_
      exact h64 (s.1, s.2.2, (0 : Int32)) hf
    · have hf := (f_if hf).1 c7
      refine g_iconst (v := (1 : Int32)) C dL_isSo_59 (by decide) ?_
      refine g_goto (tgt := 64) C dL_isSo_60 (by decide) ?_
      refine g_sub (lv2 := [(2, .int s.1), (4, .int s.2.2)]) [2, 0] rfl ?_
      exact h64 (s.1, s.2.2, (1 : Int32)) hf
  have h27 : ∀ s : Int32 × Int32, b_L_isSo_27 p0 p1 s = some o → G E X 6 [] 0 0 [(1, .int p1), (2, .int s.1)] [.int s.2] 27 := by
    intro s hf
    unfold b_L_isSo_27 at hf
    refine g_istore_n (lv2 := [(3, .int s.2), (1, .int p1), (2, .int s.1)]) C dL_isSo_27 rfl (by decide) rfl ?_
    refine g_iload_n C dL_isSo_28 rfl 1 rfl ?_
    refine g_iconst (v := (2 : Int32)) C dL_isSo_29 (by decide) ?_
    refine g_iload_n C dL_isSo_30 rfl 0 rfl ?_
    refine g_imul C dL_isSo_31 ?_
    refine g_ishr C dL_isSo_32 ?_
    refine g_iconst (v := (1 : Int32)) C dL_isSo_33 (by decide) ?_
    refine g_iand C dL_isSo_34 ?_
    refine g_iconst (v := (1 : Int32)) C dL_isSo_35 (by decide) ?_
    refine g_icmp_ne (tgt := 43) C dL_isSo_36 (by decide) (fun c8 => ?_) (fun c8 => ?_)
    · have hf := (f_if hf).2 c8
      refine g_iconst (v := (0 : Int32)) C dL_isSo_43 (by decide) ?_
      refine g_sub (lv2 := [(1, .int p1), (2, .int s.1), (3, .int s.2)]) [1, 2, 0] rfl ?_
      exact h44 (s.1, s.2, (0 : Int32)) hf
    · have hf := (f_if hf).1 c8
      refine g_iconst (v := (1 : Int32)) C dL_isSo_39 (by decide) ?_
      refine g_goto (tgt := 44) C dL_isSo_40 (by decide) ?_
      refine g_sub (lv2 := [(1, .int p1), (2, .int s.1), (3, .int s.2)]) [1, 2, 0] rfl ?_
      exact h44 (s.1, s.2, (1 : Int32)) hf
  have h11 : ∀ s : Int32, b_L_isSo_11 p0 p1 s = some o → G E X 6 [] 0 0 [(0, .int p0), (1, .int p1)] [.int s] 11 := by
    intro s hf
    unfold b_L_isSo_11 at hf
    refine g_istore_n (lv2 := [(2, .int s), (0, .int p0), (1, .int p1)]) C dL_isSo_11 rfl (by decide) rfl ?_
    refine g_iload_n C dL_isSo_12 rfl 0 rfl ?_
    refine g_if_eq (tgt := 23) C dL_isSo_13 (by decide) (fun c9 => ?_) (fun c9 => ?_)
    · have hf := (f_if hf).1 c9
      refine g_iload_n C dL_isSo_23 rfl 1 rfl ?_
      refine g_bipush (v := (97 : Int32)) C dL_isSo_24 (by decide) ?_
      refine g_isub C dL_isSo_26 ?_
      refine g_sub (lv2 := [(1, .int p1), (2, .int s)]) [2, 0] rfl ?_
      exact h27 (s, (p0 - (97 : Int32))) hf
    · have hf := (f_if hf).2 c9
      refine g_iload_n C dL_isSo_16 rfl 1 rfl ?_
      refine g_bipush (v := (65 : Int32)) C dL_isSo_17 (by decide) ?_
      refine g_isub C dL_isSo_19 ?_
      refine g_goto (tgt := 27) C dL_isSo_20 (by decide) ?_
      refine g_sub (lv2 := [(1, .int p1), (2, .int s)]) [2, 0] rfl ?_
      exact h27 (s, (p0 - (65 : Int32))) hf
  unfold f_L_isSo at hf
  refine g_iload_n C dL_isSo_0 rfl 0 rfl ?_
  refine g_bipush (v := (97 : Int32)) C dL_isSo_1 (by decide) ?_
  refine g_icmp_ge (tgt := 10) C dL_isSo_3 (by decide) (fun c10 => ?_) (fun c10 => ?_)
  · have hf := (f_if hf).1 c10
    refine g_iconst (v := (0 : Int32)) C dL_isSo_10 (by decide) ?_
    exact h11 (0 : Int32) hf
  · have hf := (f_if hf).2 c10
    refine g_iconst (v := (1 : Int32)) C dL_isSo_6 (by decide) ?_
    refine g_goto (tgt := 11) C dL_isSo_7 (by decide) ?_
    exact h11 (1 : Int32) hf
def b_L_isPart_49 (p0 : Int32) (p1 : Int32) (s : Int32) : Option (Int32) := (zb s (some s))
def b_L_isPart_37 (p0 : Int32) (p1 : Int32) (s : Int32) : Option (Int32) := ((f_L_isNot p0).bind fun o2 => (if s = o2 then b_L_isPart_49 p0 p1 (0 : Int32) else b_L_isPart_49 p0 p1 (1 : Int32)))
def b_L_isPart_36 (p0 : Int32) (p1 : Int32) (s : Unit) : Option (Int32) := b_L_isPart_37 p0 p1 (0 : Int32)
def b_L_isPart_32 (p0 : Int32) (p1 : Int32) (s : Unit) : Option (Int32) := b_L_isPart_37 p0 p1 (1 : Int32)
def f_L_isPart (p0 : Int32) (p1 : Int32) : Option (Int32) := ((f_L_letter p0).bind fun o5 => ((f_L_isSo o5 p1).bind fun o7 => (if o7 = 0 then ((f_L_isTwo p0).bind fun o10 => (if o10 = 0 then b_L_isPart_36 p0 p1 () else ((f_L_letter (p0 >>> ((7 : Int32) &&& 31))).bind fun o13 => ((f_L_isSo o13 p1).bind fun o15 => (if o15 = 0 then b_L_isPart_36 p0 p1 () else b_L_isPart_32 p0 p1 ()))))) else b_L_isPart_32 p0 p1 ())))
abbrev rm_L_isPart : Room := { frames := 2, cells := 0, slots := 0, locals := 42 }
set_option maxRecDepth 100000 in
theorem k_L_isPart : CFs yL_isPart cL_isPart 2 (some .boolean) 2 := ⟨mt_576, mt_0, mt_577, ⟨by decide +kernel, by decide +kernel, by decide +kernel⟩⟩
set_option maxHeartbeats 4000000 in
set_option maxRecDepth 100000 in
theorem c_L_isPart {E : Ev} {p0 : Int32} {p1 : Int32} {o : Int32} (hf : f_L_isPart p0 p1 = some o) : ∀ l, MG l yL_isPart cL_isPart 2 (some .boolean) rm_L_isPart E [.int p0, .int p1] [] (fun v Y => v = some (.int o) ∧ Y = []) := by
  refine MG.mk (own := RL) (lv0 := [(0, .int p0), (1, .int p1)]) (by decide) rfl (Nat.le_of_ble_eq_true rfl) rfl (fun X C K I => ?_)
  have h49 : ∀ s : Int32, b_L_isPart_49 p0 p1 s = some o → G E X 2 [] 0 0 [] [.int s] 49 := by
    intro s hf
    unfold b_L_isPart_49 at hf
    obtain ⟨z1, hf⟩ := zb_s hf
    obtain rfl := Option.some.inj hf
    exact g_zret C K z1 dL_isPart_49 (Nat.le_of_ble_eq_true rfl) (Nat.le_of_ble_eq_true rfl) ⟨rfl, rfl⟩
  have h37 : ∀ s : Int32, b_L_isPart_37 p0 p1 s = some o → G E X 2 [] 0 0 [(0, .int p0)] [.int s] 37 := by
    intro s hf
    unfold b_L_isPart_37 at hf
    refine g_iload_n C dL_isPart_37 rfl 0 rfl ?_
    obtain ⟨o2, hq3, hf⟩ := bind_s hf
    refine g_callS (As := [.int p0]) (rest := [.int s]) C k_L_isNot (fun l => c_L_isNot (E := E) hq3 l) mt_560 [] rfl (by decide) rfl (Nat.le_of_ble_eq_true rfl) ⟨Nat.le_of_ble_eq_true rfl, Nat.le_of_ble_eq_true rfl, Nat.le_of_ble_eq_true rfl, Nat.le_of_ble_eq_true rfl⟩ dL_isPart_38 ?_
    rintro _ _ ⟨rfl, rfl⟩
    show G E X 2 [] 0 0 [(0, .int p0)] [.int o2, .int s] 41
    refine g_icmp_eq (tgt := 48) C dL_isPart_41 (by decide) (fun c4 => ?_) (fun c4 => ?_)
    · have hf := (f_if hf).1 c4
      refine g_iconst (v := (0 : Int32)) C dL_isPart_48 (by decide) ?_
      refine g_sub (lv2 := []) [] rfl ?_
      exact h49 (0 : Int32) hf
    · have hf := (f_if hf).2 c4
      refine g_iconst (v := (1 : Int32)) C dL_isPart_44 (by decide) ?_
      refine g_goto (tgt := 49) C dL_isPart_45 (by decide) ?_
      refine g_sub (lv2 := []) [] rfl ?_
      exact h49 (1 : Int32) hf
  have h36 : ∀ s : Unit, b_L_isPart_36 p0 p1 s = some o → G E X 2 [] 0 0 [(0, .int p0)] [] 36 := by
    intro s hf
    unfold b_L_isPart_36 at hf
    refine g_iconst (v := (0 : Int32)) C dL_isPart_36 (by decide) ?_
    exact h37 (0 : Int32) hf
  have h32 : ∀ s : Unit, b_L_isPart_32 p0 p1 s = some o → G E X 2 [] 0 0 [(0, .int p0)] [] 32 := by
    intro s hf
    unfold b_L_isPart_32 at hf
    refine g_iconst (v := (1 : Int32)) C dL_isPart_32 (by decide) ?_
    refine g_goto (tgt := 37) C dL_isPart_33 (by decide) ?_
    exact h37 (1 : Int32) hf
  unfold f_L_isPart at hf
  refine g_iload_n C dL_isPart_0 rfl 0 rfl ?_
  obtain ⟨o5, hq6, hf⟩ := bind_s hf
  refine g_callS (As := [.int p0]) (rest := []) C k_L_letter (fun l => c_L_letter (E := E) hq6 l) mt_566 [] rfl (by decide) rfl (Nat.le_of_ble_eq_true rfl) ⟨Nat.le_of_ble_eq_true rfl, Nat.le_of_ble_eq_true rfl, Nat.le_of_ble_eq_true rfl, Nat.le_of_ble_eq_true rfl⟩ dL_isPart_1 ?_
  rintro _ _ ⟨rfl, rfl⟩
  show G E X 2 [] 0 0 [(0, .int p0), (1, .int p1)] [.int o5] 4
  refine g_iload_n C dL_isPart_4 rfl 1 rfl ?_
  obtain ⟨o7, hq8, hf⟩ := bind_s hf
  refine g_callS (As := [.int o5, .int p1]) (rest := []) C k_L_isSo (fun l => c_L_isSo (E := E) hq8 l) mt_578 [] rfl (by decide) rfl (Nat.le_of_ble_eq_true rfl) ⟨Nat.le_of_ble_eq_true rfl, Nat.le_of_ble_eq_true rfl, Nat.le_of_ble_eq_true rfl, Nat.le_of_ble_eq_true rfl⟩ dL_isPart_5 ?_
  rintro _ _ ⟨rfl, rfl⟩
  show G E X 2 [] 0 0 [(0, .int p0), (1, .int p1)] [.int o7] 8
  refine g_if_ne (tgt := 32) C dL_isPart_8 (by decide) (fun c9 => ?_) (fun c9 => ?_)
  · have hf := (f_if hf).2 c9
    refine g_sub (lv2 := [(0, .int p0)]) [0] rfl ?_
    exact h32 () hf
  · have hf := (f_if hf).1 c9
    refine g_iload_n C dL_isPart_11 rfl 0 rfl ?_
    obtain ⟨o10, hq11, hf⟩ := bind_s hf
    refine g_callS (As := [.int p0]) (rest := []) C k_L_isTwo (fun l => c_L_isTwo (E := E) hq11 l) mt_563 [] rfl (by decide) rfl (Nat.le_of_ble_eq_true rfl) ⟨Nat.le_of_ble_eq_true rfl, Nat.le_of_ble_eq_true rfl, Nat.le_of_ble_eq_true rfl, Nat.le_of_ble_eq_true rfl⟩ dL_isPart_12 ?_
    rintro _ _ ⟨rfl, rfl⟩
    show G E X 2 [] 0 0 [(0, .int p0), (1, .int p1)] [.int o10] 15
    refine g_if_eq (tgt := 36) C dL_isPart_15 (by decide) (fun c12 => ?_) (fun c12 => ?_)
    · have hf := (f_if hf).1 c12
      refine g_sub (lv2 := [(0, .int p0)]) [0] rfl ?_
      exact h36 () hf
    · have hf := (f_if hf).2 c12
      refine g_iload_n C dL_isPart_18 rfl 0 rfl ?_
      refine g_bipush (v := (7 : Int32)) C dL_isPart_19 (by decide) ?_
      refine g_ishr C dL_isPart_21 ?_
      obtain ⟨o13, hq14, hf⟩ := bind_s hf
      refine g_callS (As := [.int (p0 >>> ((7 : Int32) &&& 31))]) (rest := []) C k_L_letter (fun l => c_L_letter (E := E) hq14 l) mt_566 [] rfl (by decide) rfl (Nat.le_of_ble_eq_true rfl) ⟨Nat.le_of_ble_eq_true rfl, Nat.le_of_ble_eq_true rfl, Nat.le_of_ble_eq_true rfl, Nat.le_of_ble_eq_true rfl⟩ dL_isPart_22 ?_
      rintro _ _ ⟨rfl, rfl⟩
      show G E X 2 [] 0 0 [(0, .int p0), (1, .int p1)] [.int o13] 25
      refine g_iload_n C dL_isPart_25 rfl 1 rfl ?_
      obtain ⟨o15, hq16, hf⟩ := bind_s hf
      refine g_callS (As := [.int o13, .int p1]) (rest := []) C k_L_isSo (fun l => c_L_isSo (E := E) hq16 l) mt_578 [] rfl (by decide) rfl (Nat.le_of_ble_eq_true rfl) ⟨Nat.le_of_ble_eq_true rfl, Nat.le_of_ble_eq_true rfl, Nat.le_of_ble_eq_true rfl, Nat.le_of_ble_eq_true rfl⟩ dL_isPart_26 ?_
      rintro _ _ ⟨rfl, rfl⟩
      show G E X 2 [] 0 0 [(0, .int p0), (1, .int p1)] [.int o15] 29
      refine g_if_eq (tgt := 36) C dL_isPart_29 (by decide) (fun c17 => ?_) (fun c17 => ?_)
      · have hf := (f_if hf).1 c17
        refine g_sub (lv2 := [(0, .int p0)]) [0] rfl ?_
        exact h36 () hf
      · have hf := (f_if hf).2 c17
        refine g_sub (lv2 := [(0, .int p0)]) [0] rfl ?_
        exact h32 () hf
def b_L_holds_74 (N : Nat) (p0 : Int32) (p1 : Int32) (K4 : (Int32 × Int32) → Option (Int32)) (s : Int32 × Int32) : Option (Int32) := K4 (s.2, (s.1 + (1 : Int32)))
def b_L_holds_69 (N : Nat) (p0 : Int32) (p1 : Int32) (K4 : (Int32 × Int32) → Option (Int32)) (s : Int32) : Option (Int32) := b_L_holds_74 N p0 p1 K4 (s, (1 : Int32))
def b_L_holds_52 (N : Nat) (p0 : Int32) (p1 : Int32) (K4 : (Int32 × Int32) → Option (Int32)) (K18 : (Int32 × Int32 × Int32 × Int32) → Option (Int32)) (s : Int32 × Int32 × Int32 × Int32) : Option (Int32) := K18 (s.1, s.2.1, s.2.2.2, (s.2.2.1 + (1 : Int32)))
def b_L_holds_51 (N : Nat) (p0 : Int32) (p1 : Int32) (K4 : (Int32 × Int32) → Option (Int32)) (K18 : (Int32 × Int32 × Int32 × Int32) → Option (Int32)) (s : Int32 × Int32 × Int32) : Option (Int32) := b_L_holds_52 N p0 p1 K4 K18 (s.1, s.2.1, s.2.2, (0 : Int32))
def b_L_holds_18 (N : Nat) (p0 : Int32) (p1 : Int32) (K4 : (Int32 × Int32) → Option (Int32)) (K18 : (Int32 × Int32 × Int32 × Int32) → Option (Int32)) (s : Int32 × Int32 × Int32 × Int32) : Option (Int32) := ((f_L_partsOf p0 s.2.1).bind fun o1 => (if o1 ≤ s.2.2.2 then (if s.1 = 0 then (if s.2.2.1 = 0 then b_L_holds_74 N p0 p1 K4 (s.2.1, (0 : Int32)) else b_L_holds_69 N p0 p1 K4 s.2.1) else b_L_holds_69 N p0 p1 K4 s.2.1) else (if s.2.2.1 = 0 then b_L_holds_51 N p0 p1 K4 K18 (s.1, s.2.1, s.2.2.2) else ((f_L_part p0 s.2.1 s.2.2.2).bind fun o7 => ((f_L_isPart o7 p1).bind fun o9 => (if o9 = 0 then b_L_holds_51 N p0 p1 K4 K18 (s.1, s.2.1, s.2.2.2) else b_L_holds_52 N p0 p1 K4 K18 (s.1, s.2.1, s.2.2.2, (1 : Int32))))))))
def b_L_holds_4 (N : Nat) (p0 : Int32) (p1 : Int32) (K4 : (Int32 × Int32) → Option (Int32)) (s : Int32 × Int32) : Option (Int32) := ((f_L_rows p0).bind fun o12 => (if o12 ≤ s.2 then (zb s.1 (some s.1)) else lp (b_L_holds_18 N p0 p1 K4) N (s.1, s.2, (1 : Int32), (0 : Int32))))
def f_L_holds (N : Nat) (p0 : Int32) (p1 : Int32) : Option (Int32) := lp (b_L_holds_4 N p0 p1) N ((0 : Int32), (0 : Int32))
abbrev rm_L_holds : Room := { frames := 3, cells := 0, slots := 0, locals := 63 }
set_option maxRecDepth 100000 in
theorem k_L_holds : CFs yL_holds cL_holds 6 (some .boolean) 2 := ⟨mt_573, mt_0, mt_574, ⟨by decide +kernel, by decide +kernel, by decide +kernel⟩⟩
set_option maxHeartbeats 4000000 in
set_option maxRecDepth 100000 in
theorem c_L_holds {E : Ev} {p0 : Int32} {p1 : Int32} {N : Nat} {o : Int32} (hf : f_L_holds N p0 p1 = some o) : ∀ l, MG l yL_holds cL_holds 6 (some .boolean) rm_L_holds E [.int p0, .int p1] [] (fun v Y => v = some (.int o) ∧ Y = []) := by
  refine MG.mk (own := RL) (lv0 := [(0, .int p0), (1, .int p1)]) (by decide) rfl (Nat.le_of_ble_eq_true rfl) rfl (fun X C K I => ?_)
  have h74 : ∀ (K4 : (Int32 × Int32) → Option (Int32)), (∀ s : Int32 × Int32, K4 s = some o → G E X 6 [] 0 0 [(0, .int p0), (1, .int p1), (2, .int s.1), (3, .int s.2)] [] 4) → ∀ s : Int32 × Int32, b_L_holds_74 N p0 p1 K4 s = some o → G E X 6 [] 0 0 [(0, .int p0), (1, .int p1), (3, .int s.1)] [.int s.2] 74 := by
    intro K4 hK4 s hf
    unfold b_L_holds_74 at hf
    refine g_istore_n (lv2 := [(2, .int s.2), (0, .int p0), (1, .int p1), (3, .int s.1)]) C dL_holds_74 rfl (by decide) rfl ?_
    refine g_iinc (v := (s.1 + (1 : Int32))) (lv2 := [(3, .int (s.1 + (1 : Int32))), (2, .int s.2), (0, .int p0), (1, .int p1)]) C dL_holds_75 3 rfl (ii (by decide)) (by decide) rfl ?_
    refine g_goto (tgt := 4) C dL_holds_78 (by decide) ?_
    refine g_sub (lv2 := [(0, .int p0), (1, .int p1), (2, .int s.2), (3, .int (s.1 + (1 : Int32)))]) [2, 3, 1, 0] rfl ?_
    exact hK4 (s.2, (s.1 + (1 : Int32))) hf
  have h69 : ∀ (K4 : (Int32 × Int32) → Option (Int32)), (∀ s : Int32 × Int32, K4 s = some o → G E X 6 [] 0 0 [(0, .int p0), (1, .int p1), (2, .int s.1), (3, .int s.2)] [] 4) → ∀ s : Int32, b_L_holds_69 N p0 p1 K4 s = some o → G E X 6 [] 0 0 [(0, .int p0), (1, .int p1), (3, .int s)] [] 69 := by
    intro K4 hK4 s hf
    unfold b_L_holds_69 at hf
    refine g_iconst (v := (1 : Int32)) C dL_holds_69 (by decide) ?_
    refine g_goto (tgt := 74) C dL_holds_70 (by decide) ?_
    exact h74 K4 hK4 (s, (1 : Int32)) hf
  have h52 : ∀ (K4 : (Int32 × Int32) → Option (Int32)), (∀ s : Int32 × Int32, K4 s = some o → G E X 6 [] 0 0 [(0, .int p0), (1, .int p1), (2, .int s.1), (3, .int s.2)] [] 4) → ∀ (K18 : (Int32 × Int32 × Int32 × Int32) → Option (Int32)), (∀ s : Int32 × Int32 × Int32 × Int32, K18 s = some o → G E X 6 [] 0 0 [(0, .int p0), (1, .int p1), (2, .int s.1), (3, .int s.2.1), (4, .int s.2.2.1), (5, .int s.2.2.2)] [] 18) → ∀ s : Int32 × Int32 × Int32 × Int32, b_L_holds_52 N p0 p1 K4 K18 s = some o → G E X 6 [] 0 0 [(0, .int p0), (1, .int p1), (2, .int s.1), (3, .int s.2.1), (5, .int s.2.2.1)] [.int s.2.2.2] 52 := by
    intro K4 hK4 K18 hK18 s hf
    unfold b_L_holds_52 at hf
    refine g_istore (lv2 := [(4, .int s.2.2.2), (0, .int p0), (1, .int p1), (2, .int s.1), (3, .int s.2.1), (5, .int s.2.2.1)]) C dL_holds_52 (by decide) rfl ?_
    refine g_iinc (v := (s.2.2.1 + (1 : Int32))) (lv2 := [(5, .int (s.2.2.1 + (1 : Int32))), (4, .int s.2.2.2), (0, .int p0), (1, .int p1), (2, .int s.1), (3, .int s.2.1)]) C dL_holds_54 5 rfl (ii (by decide)) (by decide) rfl ?_
    refine g_goto (tgt := 18) C dL_holds_57 (by decide) ?_
    refine g_sub (lv2 := [(0, .int p0), (1, .int p1), (2, .int s.1), (3, .int s.2.1), (4, .int s.2.2.2), (5, .int (s.2.2.1 + (1 : Int32)))]) [2, 3, 4, 5, 1, 0] rfl ?_
    exact hK18 (s.1, s.2.1, s.2.2.2, (s.2.2.1 + (1 : Int32))) hf
  have h51 : ∀ (K4 : (Int32 × Int32) → Option (Int32)), (∀ s : Int32 × Int32, K4 s = some o → G E X 6 [] 0 0 [(0, .int p0), (1, .int p1), (2, .int s.1), (3, .int s.2)] [] 4) → ∀ (K18 : (Int32 × Int32 × Int32 × Int32) → Option (Int32)), (∀ s : Int32 × Int32 × Int32 × Int32, K18 s = some o → G E X 6 [] 0 0 [(0, .int p0), (1, .int p1), (2, .int s.1), (3, .int s.2.1), (4, .int s.2.2.1), (5, .int s.2.2.2)] [] 18) → ∀ s : Int32 × Int32 × Int32, b_L_holds_51 N p0 p1 K4 K18 s = some o → G E X 6 [] 0 0 [(0, .int p0), (1, .int p1), (2, .int s.1), (3, .int s.2.1), (5, .int s.2.2)] [] 51 := by
    intro K4 hK4 K18 hK18 s hf
    unfold b_L_holds_51 at hf
    refine g_iconst (v := (0 : Int32)) C dL_holds_51 (by decide) ?_
    exact h52 K4 hK4 K18 hK18 (s.1, s.2.1, s.2.2, (0 : Int32)) hf
  have h18 : ∀ (K4 : (Int32 × Int32) → Option (Int32)), (∀ s : Int32 × Int32, K4 s = some o → G E X 6 [] 0 0 [(0, .int p0), (1, .int p1), (2, .int s.1), (3, .int s.2)] [] 4) → ∀ (n : Nat) (s : Int32 × Int32 × Int32 × Int32), lp (b_L_holds_18 N p0 p1 K4) n s = some o → G E X 6 [] 0 0 [(0, .int p0), (1, .int p1), (2, .int s.1), (3, .int s.2.1), (4, .int s.2.2.1), (5, .int s.2.2.2)] [] 18 := by
    intro K4 hK4 
    refine lp_ind ?_
    intro K18 hK18 s hf
    unfold b_L_holds_18 at hf
    refine g_iload C dL_holds_18 5 rfl ?_
    refine g_iload_n C dL_holds_20 rfl 0 rfl ?_
    refine g_iload_n C dL_holds_21 rfl 3 rfl ?_
    obtain ⟨o1, hq2, hf⟩ := bind_s hf
    refine g_callS (As := [.int p0, .int s.2.1]) (rest := [.int s.2.2.2]) C k_L_partsOf (fun l => c_L_partsOf (E := E) hq2 l) mt_554 [] rfl (by decide) rfl (Nat.le_of_ble_eq_true rfl) ⟨Nat.le_of_ble_eq_true rfl, Nat.le_of_ble_eq_true rfl, Nat.le_of_ble_eq_true rfl, Nat.le_of_ble_eq_true rfl⟩ dL_holds_22 ?_
    rintro _ _ ⟨rfl, rfl⟩
    show G E X 6 [] 0 0 [(0, .int p0), (1, .int p1), (2, .int s.1), (3, .int s.2.1), (4, .int s.2.2.1), (5, .int s.2.2.2)] [.int o1, .int s.2.2.2] 25
    refine g_icmp_ge (tgt := 60) C dL_holds_25 (by decide) (fun c3 => ?_) (fun c3 => ?_)
    · have hf := (f_if hf).1 c3
      refine g_iload_n C dL_holds_60 rfl 2 rfl ?_
      refine g_if_ne (tgt := 69) C dL_holds_61 (by decide) (fun c4 => ?_) (fun c4 => ?_)
      · have hf := (f_if hf).2 c4
        refine g_sub (lv2 := [(0, .int p0), (1, .int p1), (3, .int s.2.1)]) [0, 1, 3] rfl ?_
        exact h69 K4 hK4 s.2.1 hf
      · have hf := (f_if hf).1 c4
        refine g_iload C dL_holds_64 4 rfl ?_
        refine g_if_eq (tgt := 73) C dL_holds_66 (by decide) (fun c5 => ?_) (fun c5 => ?_)
        · have hf := (f_if hf).1 c5
          refine g_iconst (v := (0 : Int32)) C dL_holds_73 (by decide) ?_
          refine g_sub (lv2 := [(0, .int p0), (1, .int p1), (3, .int s.2.1)]) [0, 1, 3] rfl ?_
          exact h74 K4 hK4 (s.2.1, (0 : Int32)) hf
        · have hf := (f_if hf).2 c5
          refine g_sub (lv2 := [(0, .int p0), (1, .int p1), (3, .int s.2.1)]) [0, 1, 3] rfl ?_
          exact h69 K4 hK4 s.2.1 hf
    · have hf := (f_if hf).2 c3
      refine g_iload C dL_holds_28 4 rfl ?_
      refine g_if_eq (tgt := 51) C dL_holds_30 (by decide) (fun c6 => ?_) (fun c6 => ?_)
      · have hf := (f_if hf).1 c6
        refine g_sub (lv2 := [(0, .int p0), (1, .int p1), (2, .int s.1), (3, .int s.2.1), (5, .int s.2.2.2)]) [0, 1, 2, 3, 5] rfl ?_
        exact h51 K4 hK4 K18 hK18 (s.1, s.2.1, s.2.2.2) hf
      · have hf := (f_if hf).2 c6
        refine g_iload_n C dL_holds_33 rfl 0 rfl ?_
        refine g_iload_n C dL_holds_34 rfl 3 rfl ?_
        refine g_iload C dL_holds_35 5 rfl ?_
        obtain ⟨o7, hq8, hf⟩ := bind_s hf
        refine g_callS (As := [.int p0, .int s.2.1, .int s.2.2.2]) (rest := []) C k_L_part (fun l => c_L_part (E := E) hq8 l) mt_557 [] rfl (by decide) rfl (Nat.le_of_ble_eq_true rfl) ⟨Nat.le_of_ble_eq_true rfl, Nat.le_of_ble_eq_true rfl, Nat.le_of_ble_eq_true rfl, Nat.le_of_ble_eq_true rfl⟩ dL_holds_37 ?_
        rintro _ _ ⟨rfl, rfl⟩
        show G E X 6 [] 0 0 [(0, .int p0), (1, .int p1), (2, .int s.1), (3, .int s.2.1), (4, .int s.2.2.1), (5, .int s.2.2.2)] [.int o7] 40
        refine g_iload_n C dL_holds_40 rfl 1 rfl ?_
        obtain ⟨o9, hq10, hf⟩ := bind_s hf
        refine g_callS (As := [.int o7, .int p1]) (rest := []) C k_L_isPart (fun l => c_L_isPart (E := E) hq10 l) mt_575 [] rfl (by decide) rfl (Nat.le_of_ble_eq_true rfl) ⟨Nat.le_of_ble_eq_true rfl, Nat.le_of_ble_eq_true rfl, Nat.le_of_ble_eq_true rfl, Nat.le_of_ble_eq_true rfl⟩ dL_holds_41 ?_
        rintro _ _ ⟨rfl, rfl⟩
        show G E X 6 [] 0 0 [(0, .int p0), (1, .int p1), (2, .int s.1), (3, .int s.2.1), (4, .int s.2.2.1), (5, .int s.2.2.2)] [.int o9] 44
        refine g_if_eq (tgt := 51) C dL_holds_44 (by decide) (fun c11 => ?_) (fun c11 => ?_)
        · have hf := (f_if hf).1 c11
          refine g_sub (lv2 := [(0, .int p0), (1, .int p1), (2, .int s.1), (3, .int s.2.1), (5, .int s.2.2.2)]) [0, 1, 2, 3, 5] rfl ?_
          exact h51 K4 hK4 K18 hK18 (s.1, s.2.1, s.2.2.2) hf
        · have hf := (f_if hf).2 c11
          refine g_iconst (v := (1 : Int32)) C dL_holds_47 (by decide) ?_
          refine g_goto (tgt := 52) C dL_holds_48 (by decide) ?_
          refine g_sub (lv2 := [(0, .int p0), (1, .int p1), (2, .int s.1), (3, .int s.2.1), (5, .int s.2.2.2)]) [0, 1, 2, 3, 5] rfl ?_
          exact h52 K4 hK4 K18 hK18 (s.1, s.2.1, s.2.2.2, (1 : Int32)) hf
  have h4 : ∀ (n : Nat) (s : Int32 × Int32), lp (b_L_holds_4 N p0 p1) n s = some o → G E X 6 [] 0 0 [(0, .int p0), (1, .int p1), (2, .int s.1), (3, .int s.2)] [] 4 := by
    refine lp_ind ?_
    intro K4 hK4 s hf
    unfold b_L_holds_4 at hf
    refine g_iload_n C dL_holds_4 rfl 3 rfl ?_
    refine g_iload_n C dL_holds_5 rfl 0 rfl ?_
    obtain ⟨o12, hq13, hf⟩ := bind_s hf
    refine g_callS (As := [.int p0]) (rest := [.int s.2]) C k_L_rows (fun l => c_L_rows (E := E) hq13 l) mt_533 [] rfl (by decide) rfl (Nat.le_of_ble_eq_true rfl) ⟨Nat.le_of_ble_eq_true rfl, Nat.le_of_ble_eq_true rfl, Nat.le_of_ble_eq_true rfl, Nat.le_of_ble_eq_true rfl⟩ dL_holds_6 ?_
    rintro _ _ ⟨rfl, rfl⟩
    show G E X 6 [] 0 0 [(0, .int p0), (1, .int p1), (2, .int s.1), (3, .int s.2)] [.int o12, .int s.2] 9
    refine g_icmp_ge (tgt := 81) C dL_holds_9 (by decide) (fun c14 => ?_) (fun c14 => ?_)
    · have hf := (f_if hf).1 c14
      refine g_iload_n C dL_holds_81 rfl 2 rfl ?_
      obtain ⟨z15, hf⟩ := zb_s hf
      obtain rfl := Option.some.inj hf
      exact g_zret C K z15 dL_holds_82 (Nat.le_of_ble_eq_true rfl) (Nat.le_of_ble_eq_true rfl) ⟨rfl, rfl⟩
    · have hf := (f_if hf).2 c14
      refine g_iconst (v := (1 : Int32)) C dL_holds_12 (by decide) ?_
      refine g_istore (lv2 := [(4, .int (1 : Int32)), (0, .int p0), (1, .int p1), (2, .int s.1), (3, .int s.2)]) C dL_holds_13 (by decide) rfl ?_
      refine g_iconst (v := (0 : Int32)) C dL_holds_15 (by decide) ?_
      refine g_istore (lv2 := [(5, .int (0 : Int32)), (4, .int (1 : Int32)), (0, .int p0), (1, .int p1), (2, .int s.1), (3, .int s.2)]) C dL_holds_16 (by decide) rfl ?_
      refine g_sub (lv2 := [(0, .int p0), (1, .int p1), (2, .int s.1), (3, .int s.2), (4, .int (1 : Int32)), (5, .int (0 : Int32))]) [2, 3, 4, 5, 1, 0] rfl ?_
      exact h18 K4 hK4 N (s.1, s.2, (1 : Int32), (0 : Int32)) hf
  unfold f_L_holds at hf
  refine g_iconst (v := (0 : Int32)) C dL_holds_0 (by decide) ?_
  refine g_istore_n (lv2 := [(2, .int (0 : Int32)), (0, .int p0), (1, .int p1)]) C dL_holds_1 rfl (by decide) rfl ?_
  refine g_iconst (v := (0 : Int32)) C dL_holds_2 (by decide) ?_
  refine g_istore_n (lv2 := [(3, .int (0 : Int32)), (2, .int (0 : Int32)), (0, .int p0), (1, .int p1)]) C dL_holds_3 rfl (by decide) rfl ?_
  refine g_sub (lv2 := [(0, .int p0), (1, .int p1), (2, .int (0 : Int32)), (3, .int (0 : Int32))]) [2, 3, 1, 0] rfl ?_
  exact h4 N ((0 : Int32), (0 : Int32)) hf
def b_L_bits_4 (N : Nat) (p0 : Int32) (K4 : (Int32 × Int32) → Option (Int32)) (s : Int32 × Int32) : Option (Int32) := (if (8 : Int32) ≤ s.2 then some s.1 else K4 ((s.1 + ((p0 >>> (s.2 &&& 31)) &&& (1 : Int32))), (s.2 + (1 : Int32))))
def f_L_bits (N : Nat) (p0 : Int32) : Option (Int32) := lp (b_L_bits_4 N p0) N ((0 : Int32), (0 : Int32))
abbrev rm_L_bits : Room := { frames := 0, cells := 0, slots := 0, locals := 0 }
set_option maxRecDepth 100000 in
theorem k_L_bits : CFs yL_bits cL_bits 3 (some .int) 1 := ⟨mt_586, mt_0, mt_587, ⟨by decide +kernel, by decide +kernel, by decide +kernel⟩⟩
set_option maxHeartbeats 4000000 in
set_option maxRecDepth 100000 in
theorem c_L_bits {E : Ev} {p0 : Int32} {N : Nat} {o : Int32} (hf : f_L_bits N p0 = some o) : ∀ l, MG l yL_bits cL_bits 3 (some .int) rm_L_bits E [.int p0] [] (fun v Y => v = some (.int o) ∧ Y = []) := by
  refine MG.mk (own := RL) (lv0 := [(0, .int p0)]) (by decide) rfl (Nat.le_of_ble_eq_true rfl) rfl (fun X C K I => ?_)
  have h4 : ∀ (n : Nat) (s : Int32 × Int32), lp (b_L_bits_4 N p0) n s = some o → G E X 3 [] 0 0 [(0, .int p0), (1, .int s.1), (2, .int s.2)] [] 4 := by
    refine lp_ind ?_
    intro K4 hK4 s hf
    unfold b_L_bits_4 at hf
    refine g_iload_n C dL_bits_4 rfl 2 rfl ?_
    refine g_bipush (v := (8 : Int32)) C dL_bits_5 (by decide) ?_
    refine g_icmp_ge (tgt := 24) C dL_bits_7 (by decide) (fun c1 => ?_) (fun c1 => ?_)
    · have hf := (f_if hf).1 c1
      refine g_iload_n C dL_bits_24 rfl 1 rfl ?_
      obtain rfl := Option.some.inj hf
      exact g_iret C K dL_bits_25 (Nat.le_of_ble_eq_true rfl) (Nat.le_of_ble_eq_true rfl) ⟨rfl, rfl⟩
    · have hf := (f_if hf).2 c1
      refine g_iload_n C dL_bits_10 rfl 1 rfl ?_
      refine g_iload_n C dL_bits_11 rfl 0 rfl ?_
      refine g_iload_n C dL_bits_12 rfl 2 rfl ?_
      refine g_ishr C dL_bits_13 ?_
      refine g_iconst (v := (1 : Int32)) C dL_bits_14 (by decide) ?_
      refine g_iand C dL_bits_15 ?_
      refine g_iadd C dL_bits_16 ?_
      refine g_istore_n (lv2 := [(1, .int (s.1 + ((p0 >>> (s.2 &&& 31)) &&& (1 : Int32)))), (0, .int p0), (2, .int s.2)]) C dL_bits_17 rfl (by decide) rfl ?_
      refine g_iinc (v := (s.2 + (1 : Int32))) (lv2 := [(2, .int (s.2 + (1 : Int32))), (1, .int (s.1 + ((p0 >>> (s.2 &&& 31)) &&& (1 : Int32)))), (0, .int p0)]) C dL_bits_18 2 rfl (ii (by decide)) (by decide) rfl ?_
      refine g_goto (tgt := 4) C dL_bits_21 (by decide) ?_
      refine g_sub (lv2 := [(0, .int p0), (1, .int (s.1 + ((p0 >>> (s.2 &&& 31)) &&& (1 : Int32)))), (2, .int (s.2 + (1 : Int32)))]) [2, 1, 0] rfl ?_
      exact hK4 ((s.1 + ((p0 >>> (s.2 &&& 31)) &&& (1 : Int32))), (s.2 + (1 : Int32))) hf
  unfold f_L_bits at hf
  refine g_iconst (v := (0 : Int32)) C dL_bits_0 (by decide) ?_
  refine g_istore_n (lv2 := [(1, .int (0 : Int32)), (0, .int p0)]) C dL_bits_1 rfl (by decide) rfl ?_
  refine g_iconst (v := (0 : Int32)) C dL_bits_2 (by decide) ?_
  refine g_istore_n (lv2 := [(2, .int (0 : Int32)), (1, .int (0 : Int32)), (0, .int p0)]) C dL_bits_3 rfl (by decide) rfl ?_
  refine g_sub (lv2 := [(0, .int p0), (1, .int (0 : Int32)), (2, .int (0 : Int32))]) [2, 1, 0] rfl ?_
  exact h4 N ((0 : Int32), (0 : Int32)) hf
def b_L_looked_225 (N : Nat) (p0 : Int32) (p1 : Int32) (p2 : Int32) (K8 : (Int32 × Int32 × Int32) → Option (Int32)) (s : Int32 × Int32 × Int32) : Option (Int32) := K8 (s.1, s.2.2, (s.2.1 + (1 : Int32)))
def b_L_looked_220 (N : Nat) (p0 : Int32) (p1 : Int32) (p2 : Int32) (K8 : (Int32 × Int32 × Int32) → Option (Int32)) (s : Int32 × Int32) : Option (Int32) := b_L_looked_225 N p0 p1 p2 K8 (s.1, s.2, (1 : Int32))
def b_L_looked_202 (N : Nat) (p0 : Int32) (p1 : Int32) (p2 : Int32) (K8 : (Int32 × Int32 × Int32) → Option (Int32)) (K36 : (Int32 × Int32 × Int32 × Int32 × Int32) → Option (Int32)) (s : Int32 × Int32 × Int32 × Int32 × Int32) : Option (Int32) := K36 (s.1, s.2.1, s.2.2.1, s.2.2.2.2, (s.2.2.2.1 + (1 : Int32)))
def b_L_looked_201 (N : Nat) (p0 : Int32) (p1 : Int32) (p2 : Int32) (K8 : (Int32 × Int32 × Int32) → Option (Int32)) (K36 : (Int32 × Int32 × Int32 × Int32 × Int32) → Option (Int32)) (s : Int32 × Int32 × Int32 × Int32) : Option (Int32) := b_L_looked_202 N p0 p1 p2 K8 K36 (s.1, s.2.1, s.2.2.1, s.2.2.2, (0 : Int32))
def b_L_looked_181 (N : Nat) (p0 : Int32) (p1 : Int32) (p2 : Int32) (K8 : (Int32 × Int32 × Int32) → Option (Int32)) (K36 : (Int32 × Int32 × Int32 × Int32 × Int32) → Option (Int32)) (s : Int32 × Int32 × Int32 × Int32 × Int32 × Int32 × Int32) : Option (Int32) := (if s.2.2.1 = 0 then b_L_looked_201 N p0 p1 p2 K8 K36 ((s.2.2.2.2.2.1 + s.2.2.2.2.2.2), s.1, s.2.1, s.2.2.2.1) else ((f_L_isPart s.2.2.2.2.1 p1).bind fun o2 => (if o2 = 0 then b_L_looked_201 N p0 p1 p2 K8 K36 ((s.2.2.2.2.2.1 + s.2.2.2.2.2.2), s.1, s.2.1, s.2.2.2.1) else b_L_looked_202 N p0 p1 p2 K8 K36 ((s.2.2.2.2.2.1 + s.2.2.2.2.2.2), s.1, s.2.1, s.2.2.2.1, (1 : Int32)))))
def b_L_looked_176 (N : Nat) (p0 : Int32) (p1 : Int32) (p2 : Int32) (K8 : (Int32 × Int32 × Int32) → Option (Int32)) (K36 : (Int32 × Int32 × Int32 × Int32 × Int32) → Option (Int32)) (s : Int32 × Int32 × Int32 × Int32 × Int32 × Int32 × Int32 × Int32) : Option (Int32) := b_L_looked_181 N p0 p1 p2 K8 K36 (s.1, s.2.1, s.2.2.1, s.2.2.2.1, s.2.2.2.2.1, s.2.2.2.2.2.1, (s.2.2.2.2.2.2.1 + s.2.2.2.2.2.2.2))
def b_L_looked_165 (N : Nat) (p0 : Int32) (p1 : Int32) (p2 : Int32) (K8 : (Int32 × Int32 × Int32) → Option (Int32)) (K36 : (Int32 × Int32 × Int32 × Int32 × Int32) → Option (Int32)) (s : Int32 × Int32 × Int32 × Int32 × Int32 × Int32 × Int32 × Int32 × Int32) : Option (Int32) := (if s.2.2.2.2.2.1 = 0 then b_L_looked_176 N p0 p1 p2 K8 K36 (s.1, s.2.1, s.2.2.1, s.2.2.2.1, s.2.2.2.2.1, s.2.2.2.2.2.2.1, (s.2.2.2.2.2.2.2.1 + s.2.2.2.2.2.2.2.2), (0 : Int32)) else b_L_looked_176 N p0 p1 p2 K8 K36 (s.1, s.2.1, s.2.2.1, s.2.2.2.1, s.2.2.2.2.1, s.2.2.2.2.2.2.1, (s.2.2.2.2.2.2.2.1 + s.2.2.2.2.2.2.2.2), (1 : Int32)))
def b_L_looked_151 (N : Nat) (p0 : Int32) (p1 : Int32) (p2 : Int32) (K8 : (Int32 × Int32 × Int32) → Option (Int32)) (K36 : (Int32 × Int32 × Int32 × Int32 × Int32) → Option (Int32)) (s : Int32 × Int32 × Int32 × Int32 × Int32 × Int32 × Int32 × Int32 × Int32) : Option (Int32) := ((f_L_isTwo s.2.2.2.2.1).bind fun o6 => (if o6 = 0 then b_L_looked_165 N p0 p1 p2 K8 K36 (s.1, s.2.1, s.2.2.1, s.2.2.2.1, s.2.2.2.2.1, s.2.2.2.2.2.1, s.2.2.2.2.2.2.1, (s.2.2.2.2.2.2.2.1 + s.2.2.2.2.2.2.2.2), (0 : Int32)) else b_L_looked_165 N p0 p1 p2 K8 K36 (s.1, s.2.1, s.2.2.1, s.2.2.2.1, s.2.2.2.2.1, s.2.2.2.2.2.1, s.2.2.2.2.2.2.1, (s.2.2.2.2.2.2.2.1 + s.2.2.2.2.2.2.2.2), (1 : Int32))))
def b_L_looked_129 (N : Nat) (p0 : Int32) (p1 : Int32) (p2 : Int32) (K8 : (Int32 × Int32 × Int32) → Option (Int32)) (K36 : (Int32 × Int32 × Int32 × Int32 × Int32) → Option (Int32)) (s : Int32 × Int32 × Int32 × Int32 × Int32 × Int32 × Int32 × Int32) : Option (Int32) := (if s.2.2.2.2.2.2.1 = 0 then b_L_looked_181 N p0 p1 p2 K8 K36 (s.2.1, s.2.2.1, s.2.2.2.1, s.2.2.2.2.1, s.2.2.2.2.2.1, s.1, (0 : Int32)) else ((f_L_isNot s.2.2.2.2.2.1).bind fun o10 => (if o10 = 0 then b_L_looked_151 N p0 p1 p2 K8 K36 (s.2.1, s.2.2.1, s.2.2.2.1, s.2.2.2.2.1, s.2.2.2.2.2.1, s.2.2.2.2.2.2.2, s.1, (1 : Int32), (0 : Int32)) else b_L_looked_151 N p0 p1 p2 K8 K36 (s.2.1, s.2.2.1, s.2.2.2.1, s.2.2.2.2.1, s.2.2.2.2.2.1, s.2.2.2.2.2.2.2, s.1, (1 : Int32), (1 : Int32)))))
def b_L_looked_128 (N : Nat) (p0 : Int32) (p1 : Int32) (p2 : Int32) (K8 : (Int32 × Int32 × Int32) → Option (Int32)) (K36 : (Int32 × Int32 × Int32 × Int32 × Int32) → Option (Int32)) (s : Int32 × Int32 × Int32 × Int32 × Int32 × Int32 × Int32) : Option (Int32) := b_L_looked_129 N p0 p1 p2 K8 K36 (s.1, s.2.1, s.2.2.1, s.2.2.2.1, s.2.2.2.2.1, s.2.2.2.2.2.1, s.2.2.2.2.2.2, (0 : Int32))
def b_L_looked_124 (N : Nat) (p0 : Int32) (p1 : Int32) (p2 : Int32) (K8 : (Int32 × Int32 × Int32) → Option (Int32)) (K36 : (Int32 × Int32 × Int32 × Int32 × Int32) → Option (Int32)) (s : Int32 × Int32 × Int32 × Int32 × Int32 × Int32 × Int32) : Option (Int32) := b_L_looked_129 N p0 p1 p2 K8 K36 (s.1, s.2.1, s.2.2.1, s.2.2.2.1, s.2.2.2.2.1, s.2.2.2.2.2.1, s.2.2.2.2.2.2, (1 : Int32))
def b_L_looked_98 (N : Nat) (p0 : Int32) (p1 : Int32) (p2 : Int32) (K8 : (Int32 × Int32 × Int32) → Option (Int32)) (K36 : (Int32 × Int32 × Int32 × Int32 × Int32) → Option (Int32)) (s : Int32 × Int32 × Int32 × Int32 × Int32 × Int32 × Int32 × Int32) : Option (Int32) := ((f_L_isTwo s.2.2.2.2.1).bind fun o13 => (if o13 = 0 then b_L_looked_128 N p0 p1 p2 K8 K36 ((s.2.2.2.2.2.2.1 + s.2.2.2.2.2.2.2), s.1, s.2.1, s.2.2.1, s.2.2.2.1, s.2.2.2.2.1, s.2.2.2.2.2.1) else (if p2 = 0 then ((f_L_letter s.2.2.2.2.1).bind fun o17 => ((f_L_isSo o17 p1).bind fun o19 => (if o19 = 0 then b_L_looked_124 N p0 p1 p2 K8 K36 ((s.2.2.2.2.2.2.1 + s.2.2.2.2.2.2.2), s.1, s.2.1, s.2.2.1, s.2.2.2.1, s.2.2.2.2.1, s.2.2.2.2.2.1) else b_L_looked_128 N p0 p1 p2 K8 K36 ((s.2.2.2.2.2.2.1 + s.2.2.2.2.2.2.2), s.1, s.2.1, s.2.2.1, s.2.2.2.1, s.2.2.2.2.1, s.2.2.2.2.2.1)))) else b_L_looked_124 N p0 p1 p2 K8 K36 ((s.2.2.2.2.2.2.1 + s.2.2.2.2.2.2.2), s.1, s.2.1, s.2.2.1, s.2.2.2.1, s.2.2.2.2.1, s.2.2.2.2.2.1))))
def b_L_looked_97 (N : Nat) (p0 : Int32) (p1 : Int32) (p2 : Int32) (K8 : (Int32 × Int32 × Int32) → Option (Int32)) (K36 : (Int32 × Int32 × Int32 × Int32 × Int32) → Option (Int32)) (s : Int32 × Int32 × Int32 × Int32 × Int32 × Int32 × Int32) : Option (Int32) := b_L_looked_98 N p0 p1 p2 K8 K36 (s.1, s.2.1, s.2.2.1, s.2.2.2.1, s.2.2.2.2.1, s.2.2.2.2.2.1, s.2.2.2.2.2.2, (0 : Int32))
def b_L_looked_93 (N : Nat) (p0 : Int32) (p1 : Int32) (p2 : Int32) (K8 : (Int32 × Int32 × Int32) → Option (Int32)) (K36 : (Int32 × Int32 × Int32 × Int32 × Int32) → Option (Int32)) (s : Int32 × Int32 × Int32 × Int32 × Int32 × Int32 × Int32) : Option (Int32) := b_L_looked_98 N p0 p1 p2 K8 K36 (s.1, s.2.1, s.2.2.1, s.2.2.2.1, s.2.2.2.2.1, s.2.2.2.2.2.1, s.2.2.2.2.2.2, (1 : Int32))
def b_L_looked_76 (N : Nat) (p0 : Int32) (p1 : Int32) (p2 : Int32) (K8 : (Int32 × Int32 × Int32) → Option (Int32)) (K36 : (Int32 × Int32 × Int32 × Int32 × Int32) → Option (Int32)) (s : Int32 × Int32 × Int32 × Int32 × Int32 × Int32 × Int32) : Option (Int32) := (if s.2.2.2.2.1 ≤ 0 then b_L_looked_97 N p0 p1 p2 K8 K36 (s.2.1, s.2.2.1, s.2.2.2.1, s.2.2.2.2.1, s.2.2.2.2.2.1, s.2.2.2.2.2.2, s.1) else (if p2 = 0 then (if s.2.1 = 0 then b_L_looked_93 N p0 p1 p2 K8 K36 (s.2.1, s.2.2.1, s.2.2.2.1, s.2.2.2.2.1, s.2.2.2.2.2.1, s.2.2.2.2.2.2, s.1) else b_L_looked_97 N p0 p1 p2 K8 K36 (s.2.1, s.2.2.1, s.2.2.2.1, s.2.2.2.2.1, s.2.2.2.2.2.1, s.2.2.2.2.2.2, s.1)) else b_L_looked_93 N p0 p1 p2 K8 K36 (s.2.1, s.2.2.1, s.2.2.2.1, s.2.2.2.2.1, s.2.2.2.2.2.1, s.2.2.2.2.2.2, s.1)))
def b_L_looked_75 (N : Nat) (p0 : Int32) (p1 : Int32) (p2 : Int32) (K8 : (Int32 × Int32 × Int32) → Option (Int32)) (K36 : (Int32 × Int32 × Int32 × Int32 × Int32) → Option (Int32)) (s : Int32 × Int32 × Int32 × Int32 × Int32 × Int32) : Option (Int32) := b_L_looked_76 N p0 p1 p2 K8 K36 (s.1, s.2.1, s.2.2.1, s.2.2.2.1, s.2.2.2.2.1, s.2.2.2.2.2, (0 : Int32))
def b_L_looked_71 (N : Nat) (p0 : Int32) (p1 : Int32) (p2 : Int32) (K8 : (Int32 × Int32 × Int32) → Option (Int32)) (K36 : (Int32 × Int32 × Int32 × Int32 × Int32) → Option (Int32)) (s : Int32 × Int32 × Int32 × Int32 × Int32 × Int32) : Option (Int32) := b_L_looked_76 N p0 p1 p2 K8 K36 (s.1, s.2.1, s.2.2.1, s.2.2.2.1, s.2.2.2.2.1, s.2.2.2.2.2, (1 : Int32))
def b_L_looked_36 (N : Nat) (p0 : Int32) (p1 : Int32) (p2 : Int32) (K8 : (Int32 × Int32 × Int32) → Option (Int32)) (K36 : (Int32 × Int32 × Int32 × Int32 × Int32) → Option (Int32)) (s : Int32 × Int32 × Int32 × Int32 × Int32) : Option (Int32) := ((f_L_partsOf p0 s.2.2.1).bind fun o25 => (if o25 ≤ s.2.2.2.2 then (if s.2.1 = 0 then (if s.2.2.2.1 = 0 then b_L_looked_225 N p0 p1 p2 K8 (s.1, s.2.2.1, (0 : Int32)) else b_L_looked_220 N p0 p1 p2 K8 (s.1, s.2.2.1)) else b_L_looked_220 N p0 p1 p2 K8 (s.1, s.2.2.1)) else ((f_L_part p0 s.2.2.1 s.2.2.2.2).bind fun o30 => (if p2 = 0 then (if s.2.1 = 0 then (if s.2.2.2.1 = 0 then b_L_looked_75 N p0 p1 p2 K8 K36 (s.1, s.2.1, s.2.2.1, s.2.2.2.1, s.2.2.2.2, o30) else b_L_looked_71 N p0 p1 p2 K8 K36 (s.1, s.2.1, s.2.2.1, s.2.2.2.1, s.2.2.2.2, o30)) else b_L_looked_75 N p0 p1 p2 K8 K36 (s.1, s.2.1, s.2.2.1, s.2.2.2.1, s.2.2.2.2, o30)) else b_L_looked_71 N p0 p1 p2 K8 K36 (s.1, s.2.1, s.2.2.1, s.2.2.2.1, s.2.2.2.2, o30)))))
def b_L_looked_28 (N : Nat) (p0 : Int32) (p1 : Int32) (p2 : Int32) (K8 : (Int32 × Int32 × Int32) → Option (Int32)) (s : Int32 × Int32 × Int32 × Int32) : Option (Int32) := lp (b_L_looked_36 N p0 p1 p2 K8) N ((s.2.2.1 + s.2.2.2), s.1, s.2.1, (1 : Int32), (0 : Int32))
def b_L_looked_8 (N : Nat) (p0 : Int32) (p1 : Int32) (p2 : Int32) (K8 : (Int32 × Int32 × Int32) → Option (Int32)) (s : Int32 × Int32 × Int32) : Option (Int32) := ((f_L_rows p0).bind fun o35 => (if o35 ≤ s.2.2 then some s.1 else (if s.2.2 ≤ 0 then b_L_looked_28 N p0 p1 p2 K8 (s.2.1, s.2.2, s.1, (0 : Int32)) else b_L_looked_28 N p0 p1 p2 K8 (s.2.1, s.2.2, s.1, (1 : Int32)))))
def f_L_looked (N : Nat) (p0 : Int32) (p1 : Int32) (p2 : Int32) : Option (Int32) := lp (b_L_looked_8 N p0 p1 p2) N ((0 : Int32), (0 : Int32), (0 : Int32))
abbrev rm_L_looked : Room := { frames := 3, cells := 0, slots := 0, locals := 63 }
set_option maxRecDepth 100000 in
theorem k_L_looked : CFs yL_looked cL_looked 11 (some .int) 3 := ⟨mt_589, mt_0, mt_590, ⟨by decide +kernel, by decide +kernel, by decide +kernel⟩⟩
set_option maxHeartbeats 4000000 in
set_option maxRecDepth 100000 in
theorem c_L_looked {E : Ev} {p0 : Int32} {p1 : Int32} {p2 : Int32} {N : Nat} {o : Int32} (hf : f_L_looked N p0 p1 p2 = some o) : ∀ l, MG l yL_looked cL_looked 11 (some .int) rm_L_looked E [.int p0, .int p1, .int p2] [] (fun v Y => v = some (.int o) ∧ Y = []) := by
  refine MG.mk (own := RL) (lv0 := [(0, .int p0), (1, .int p1), (2, .int p2)]) (by decide) rfl (Nat.le_of_ble_eq_true rfl) rfl (fun X C K I => ?_)
  have h225 : ∀ (K8 : (Int32 × Int32 × Int32) → Option (Int32)), (∀ s : Int32 × Int32 × Int32, K8 s = some o → G E X 11 [] 0 0 [(0, .int p0), (1, .int p1), (2, .int p2), (3, .int s.1), (4, .int s.2.1), (5, .int s.2.2)] [] 8) → ∀ s : Int32 × Int32 × Int32, b_L_looked_225 N p0 p1 p2 K8 s = some o → G E X 11 [] 0 0 [(0, .int p0), (1, .int p1), (2, .int p2), (3, .int s.1), (5, .int s.2.1)] [.int s.2.2] 225 := by
    intro K8 hK8 s hf
    unfold b_L_looked_225 at hf
    refine g_istore (lv2 := [(4, .int s.2.2), (0, .int p0), (1, .int p1), (2, .int p2), (3, .int s.1), (5, .int s.2.1)]) C dL_looked_225 (by decide) rfl ?_
    refine g_iinc (v := (s.2.1 + (1 : Int32))) (lv2 := [(5, .int (s.2.1 + (1 : Int32))), (4, .int s.2.2), (0, .int p0), (1, .int p1), (2, .int p2), (3, .int s.1)]) C dL_looked_227 5 rfl (ii (by decide)) (by decide) rfl ?_
    refine g_goto (tgt := 8) C dL_looked_230 (by decide) ?_
    refine g_sub (lv2 := [(0, .int p0), (1, .int p1), (2, .int p2), (3, .int s.1), (4, .int s.2.2), (5, .int (s.2.1 + (1 : Int32)))]) [2, 3, 4, 5, 1, 0] rfl ?_
    exact hK8 (s.1, s.2.2, (s.2.1 + (1 : Int32))) hf
  have h220 : ∀ (K8 : (Int32 × Int32 × Int32) → Option (Int32)), (∀ s : Int32 × Int32 × Int32, K8 s = some o → G E X 11 [] 0 0 [(0, .int p0), (1, .int p1), (2, .int p2), (3, .int s.1), (4, .int s.2.1), (5, .int s.2.2)] [] 8) → ∀ s : Int32 × Int32, b_L_looked_220 N p0 p1 p2 K8 s = some o → G E X 11 [] 0 0 [(0, .int p0), (1, .int p1), (2, .int p2), (3, .int s.1), (5, .int s.2)] [] 220 := by
    intro K8 hK8 s hf
    unfold b_L_looked_220 at hf
    refine g_iconst (v := (1 : Int32)) C dL_looked_220 (by decide) ?_
    refine g_goto (tgt := 225) C dL_looked_221 (by decide) ?_
    exact h225 K8 hK8 (s.1, s.2, (1 : Int32)) hf
  have h202 : ∀ (K8 : (Int32 × Int32 × Int32) → Option (Int32)), (∀ s : Int32 × Int32 × Int32, K8 s = some o → G E X 11 [] 0 0 [(0, .int p0), (1, .int p1), (2, .int p2), (3, .int s.1), (4, .int s.2.1), (5, .int s.2.2)] [] 8) → ∀ (K36 : (Int32 × Int32 × Int32 × Int32 × Int32) → Option (Int32)), (∀ s : Int32 × Int32 × Int32 × Int32 × Int32, K36 s = some o → G E X 11 [] 0 0 [(0, .int p0), (1, .int p1), (2, .int p2), (3, .int s.1), (4, .int s.2.1), (5, .int s.2.2.1), (6, .int s.2.2.2.1), (7, .int s.2.2.2.2)] [] 36) → ∀ s : Int32 × Int32 × Int32 × Int32 × Int32, b_L_looked_202 N p0 p1 p2 K8 K36 s = some o → G E X 11 [] 0 0 [(0, .int p0), (1, .int p1), (2, .int p2), (3, .int s.1), (4, .int s.2.1), (5, .int s.2.2.1), (7, .int s.2.2.2.1)] [.int s.2.2.2.2] 202 := by
    intro K8 hK8 K36 hK36 s hf
    unfold b_L_looked_202 at hf
    refine g_istore (lv2 := [(6, .int s.2.2.2.2), (0, .int p0), (1, .int p1), (2, .int p2), (3, .int s.1), (4, .int s.2.1), (5, .int s.2.2.1), (7, .int s.2.2.2.1)]) C dL_looked_202 (by decide) rfl ?_
    refine g_iinc (v := (s.2.2.2.1 + (1 : Int32))) (lv2 := [(7, .int (s.2.2.2.1 + (1 : Int32))), (6, .int s.2.2.2.2), (0, .int p0), (1, .int p1), (2, .int p2), (3, .int s.1), (4, .int s.2.1), (5, .int s.2.2.1)]) C dL_looked_204 7 rfl (ii (by decide)) (by decide) rfl ?_
    refine g_goto (tgt := 36) C dL_looked_207 (by decide) ?_
    refine g_sub (lv2 := [(0, .int p0), (1, .int p1), (2, .int p2), (3, .int s.1), (4, .int s.2.1), (5, .int s.2.2.1), (6, .int s.2.2.2.2), (7, .int (s.2.2.2.1 + (1 : Int32)))]) [2, 3, 4, 5, 6, 7, 1, 0] rfl ?_
    exact hK36 (s.1, s.2.1, s.2.2.1, s.2.2.2.2, (s.2.2.2.1 + (1 : Int32))) hf
  have h201 : ∀ (K8 : (Int32 × Int32 × Int32) → Option (Int32)), (∀ s : Int32 × Int32 × Int32, K8 s = some o → G E X 11 [] 0 0 [(0, .int p0), (1, .int p1), (2, .int p2), (3, .int s.1), (4, .int s.2.1), (5, .int s.2.2)] [] 8) → ∀ (K36 : (Int32 × Int32 × Int32 × Int32 × Int32) → Option (Int32)), (∀ s : Int32 × Int32 × Int32 × Int32 × Int32, K36 s = some o → G E X 11 [] 0 0 [(0, .int p0), (1, .int p1), (2, .int p2), (3, .int s.1), (4, .int s.2.1), (5, .int s.2.2.1), (6, .int s.2.2.2.1), (7, .int s.2.2.2.2)] [] 36) → ∀ s : Int32 × Int32 × Int32 × Int32, b_L_looked_201 N p0 p1 p2 K8 K36 s = some o → G E X 11 [] 0 0 [(0, .int p0), (1, .int p1), (2, .int p2), (3, .int s.1), (4, .int s.2.1), (5, .int s.2.2.1), (7, .int s.2.2.2)] [] 201 := by
    intro K8 hK8 K36 hK36 s hf
    unfold b_L_looked_201 at hf
    refine g_iconst (v := (0 : Int32)) C dL_looked_201 (by decide) ?_
    exact h202 K8 hK8 K36 hK36 (s.1, s.2.1, s.2.2.1, s.2.2.2, (0 : Int32)) hf
  have h181 : ∀ (K8 : (Int32 × Int32 × Int32) → Option (Int32)), (∀ s : Int32 × Int32 × Int32, K8 s = some o → G E X 11 [] 0 0 [(0, .int p0), (1, .int p1), (2, .int p2), (3, .int s.1), (4, .int s.2.1), (5, .int s.2.2)] [] 8) → ∀ (K36 : (Int32 × Int32 × Int32 × Int32 × Int32) → Option (Int32)), (∀ s : Int32 × Int32 × Int32 × Int32 × Int32, K36 s = some o → G E X 11 [] 0 0 [(0, .int p0), (1, .int p1), (2, .int p2), (3, .int s.1), (4, .int s.2.1), (5, .int s.2.2.1), (6, .int s.2.2.2.1), (7, .int s.2.2.2.2)] [] 36) → ∀ s : Int32 × Int32 × Int32 × Int32 × Int32 × Int32 × Int32, b_L_looked_181 N p0 p1 p2 K8 K36 s = some o → G E X 11 [] 0 0 [(0, .int p0), (1, .int p1), (2, .int p2), (4, .int s.1), (5, .int s.2.1), (6, .int s.2.2.1), (7, .int s.2.2.2.1), (8, .int s.2.2.2.2.1)] [.int s.2.2.2.2.2.2, .int s.2.2.2.2.2.1] 181 := by
    intro K8 hK8 K36 hK36 s hf
    unfold b_L_looked_181 at hf
    refine g_iadd C dL_looked_181 ?_
    refine g_istore_n (lv2 := [(3, .int (s.2.2.2.2.2.1 + s.2.2.2.2.2.2)), (0, .int p0), (1, .int p1), (2, .int p2), (4, .int s.1), (5, .int s.2.1), (6, .int s.2.2.1), (7, .int s.2.2.2.1), (8, .int s.2.2.2.2.1)]) C dL_looked_182 rfl (by decide) rfl ?_
    refine g_iload C dL_looked_183 6 rfl ?_
    refine g_if_eq (tgt := 201) C dL_looked_185 (by decide) (fun c1 => ?_) (fun c1 => ?_)
    · have hf := (f_if hf).1 c1
      refine g_sub (lv2 := [(0, .int p0), (1, .int p1), (2, .int p2), (3, .int (s.2.2.2.2.2.1 + s.2.2.2.2.2.2)), (4, .int s.1), (5, .int s.2.1), (7, .int s.2.2.2.1)]) [1, 2, 3, 0, 4, 5, 7] rfl ?_
      exact h201 K8 hK8 K36 hK36 ((s.2.2.2.2.2.1 + s.2.2.2.2.2.2), s.1, s.2.1, s.2.2.2.1) hf
    · have hf := (f_if hf).2 c1
      refine g_iload C dL_looked_188 8 rfl ?_
      refine g_iload_n C dL_looked_190 rfl 2 rfl ?_
      obtain ⟨o2, hq3, hf⟩ := bind_s hf
      refine g_callS (As := [.int s.2.2.2.2.1, .int p1]) (rest := []) C k_L_isPart (fun l => c_L_isPart (E := E) hq3 l) mt_575 [] rfl (by decide) rfl (Nat.le_of_ble_eq_true rfl) ⟨Nat.le_of_ble_eq_true rfl, Nat.le_of_ble_eq_true rfl, Nat.le_of_ble_eq_true rfl, Nat.le_of_ble_eq_true rfl⟩ dL_looked_191 ?_
      rintro _ _ ⟨rfl, rfl⟩
      show G E X 11 [] 0 0 [(3, .int (s.2.2.2.2.2.1 + s.2.2.2.2.2.2)), (0, .int p0), (1, .int p1), (2, .int p2), (4, .int s.1), (5, .int s.2.1), (6, .int s.2.2.1), (7, .int s.2.2.2.1), (8, .int s.2.2.2.2.1)] [.int o2] 194
      refine g_if_eq (tgt := 201) C dL_looked_194 (by decide) (fun c4 => ?_) (fun c4 => ?_)
      · have hf := (f_if hf).1 c4
        refine g_sub (lv2 := [(0, .int p0), (1, .int p1), (2, .int p2), (3, .int (s.2.2.2.2.2.1 + s.2.2.2.2.2.2)), (4, .int s.1), (5, .int s.2.1), (7, .int s.2.2.2.1)]) [1, 2, 3, 0, 4, 5, 7] rfl ?_
        exact h201 K8 hK8 K36 hK36 ((s.2.2.2.2.2.1 + s.2.2.2.2.2.2), s.1, s.2.1, s.2.2.2.1) hf
      · have hf := (f_if hf).2 c4
        refine g_iconst (v := (1 : Int32)) C dL_looked_197 (by decide) ?_
        refine g_goto (tgt := 202) C dL_looked_198 (by decide) ?_
        refine g_sub (lv2 := [(0, .int p0), (1, .int p1), (2, .int p2), (3, .int (s.2.2.2.2.2.1 + s.2.2.2.2.2.2)), (4, .int s.1), (5, .int s.2.1), (7, .int s.2.2.2.1)]) [1, 2, 3, 0, 4, 5, 7] rfl ?_
        exact h202 K8 hK8 K36 hK36 ((s.2.2.2.2.2.1 + s.2.2.2.2.2.2), s.1, s.2.1, s.2.2.2.1, (1 : Int32)) hf
  have h176 : ∀ (K8 : (Int32 × Int32 × Int32) → Option (Int32)), (∀ s : Int32 × Int32 × Int32, K8 s = some o → G E X 11 [] 0 0 [(0, .int p0), (1, .int p1), (2, .int p2), (3, .int s.1), (4, .int s.2.1), (5, .int s.2.2)] [] 8) → ∀ (K36 : (Int32 × Int32 × Int32 × Int32 × Int32) → Option (Int32)), (∀ s : Int32 × Int32 × Int32 × Int32 × Int32, K36 s = some o → G E X 11 [] 0 0 [(0, .int p0), (1, .int p1), (2, .int p2), (3, .int s.1), (4, .int s.2.1), (5, .int s.2.2.1), (6, .int s.2.2.2.1), (7, .int s.2.2.2.2)] [] 36) → ∀ s : Int32 × Int32 × Int32 × Int32 × Int32 × Int32 × Int32 × Int32, b_L_looked_176 N p0 p1 p2 K8 K36 s = some o → G E X 11 [] 0 0 [(0, .int p0), (1, .int p1), (2, .int p2), (4, .int s.1), (5, .int s.2.1), (6, .int s.2.2.1), (7, .int s.2.2.2.1), (8, .int s.2.2.2.2.1)] [.int s.2.2.2.2.2.2.2, .int s.2.2.2.2.2.2.1, .int s.2.2.2.2.2.1] 176 := by
    intro K8 hK8 K36 hK36 s hf
    unfold b_L_looked_176 at hf
    refine g_iadd C dL_looked_176 ?_
    refine g_goto (tgt := 181) C dL_looked_177 (by decide) ?_
    exact h181 K8 hK8 K36 hK36 (s.1, s.2.1, s.2.2.1, s.2.2.2.1, s.2.2.2.2.1, s.2.2.2.2.2.1, (s.2.2.2.2.2.2.1 + s.2.2.2.2.2.2.2)) hf
  have h165 : ∀ (K8 : (Int32 × Int32 × Int32) → Option (Int32)), (∀ s : Int32 × Int32 × Int32, K8 s = some o → G E X 11 [] 0 0 [(0, .int p0), (1, .int p1), (2, .int p2), (3, .int s.1), (4, .int s.2.1), (5, .int s.2.2)] [] 8) → ∀ (K36 : (Int32 × Int32 × Int32 × Int32 × Int32) → Option (Int32)), (∀ s : Int32 × Int32 × Int32 × Int32 × Int32, K36 s = some o → G E X 11 [] 0 0 [(0, .int p0), (1, .int p1), (2, .int p2), (3, .int s.1), (4, .int s.2.1), (5, .int s.2.2.1), (6, .int s.2.2.2.1), (7, .int s.2.2.2.2)] [] 36) → ∀ s : Int32 × Int32 × Int32 × Int32 × Int32 × Int32 × Int32 × Int32 × Int32, b_L_looked_165 N p0 p1 p2 K8 K36 s = some o → G E X 11 [] 0 0 [(0, .int p0), (1, .int p1), (2, .int p2), (4, .int s.1), (5, .int s.2.1), (6, .int s.2.2.1), (7, .int s.2.2.2.1), (8, .int s.2.2.2.2.1), (10, .int s.2.2.2.2.2.1)] [.int s.2.2.2.2.2.2.2.2, .int s.2.2.2.2.2.2.2.1, .int s.2.2.2.2.2.2.1] 165 := by
    intro K8 hK8 K36 hK36 s hf
    unfold b_L_looked_165 at hf
    refine g_iadd C dL_looked_165 ?_
    refine g_iload C dL_looked_166 8 rfl ?_
    refine g_if_eq (tgt := 175) C dL_looked_168 (by decide) (fun c5 => ?_) (fun c5 => ?_)
    · have hf := (f_if hf).1 c5
      refine g_iconst (v := (0 : Int32)) C dL_looked_175 (by decide) ?_
      refine g_sub (lv2 := [(0, .int p0), (1, .int p1), (2, .int p2), (4, .int s.1), (5, .int s.2.1), (6, .int s.2.2.1), (7, .int s.2.2.2.1), (8, .int s.2.2.2.2.1)]) [0, 1, 2, 3, 4, 5, 6, 7] rfl ?_
      exact h176 K8 hK8 K36 hK36 (s.1, s.2.1, s.2.2.1, s.2.2.2.1, s.2.2.2.2.1, s.2.2.2.2.2.2.1, (s.2.2.2.2.2.2.2.1 + s.2.2.2.2.2.2.2.2), (0 : Int32)) hf
    · have hf := (f_if hf).2 c5
      refine g_iconst (v := (1 : Int32)) C dL_looked_171 (by decide) ?_
      refine g_goto (tgt := 176) C dL_looked_172 (by decide) ?_
      refine g_sub (lv2 := [(0, .int p0), (1, .int p1), (2, .int p2), (4, .int s.1), (5, .int s.2.1), (6, .int s.2.2.1), (7, .int s.2.2.2.1), (8, .int s.2.2.2.2.1)]) [0, 1, 2, 3, 4, 5, 6, 7] rfl ?_
      exact h176 K8 hK8 K36 hK36 (s.1, s.2.1, s.2.2.1, s.2.2.2.1, s.2.2.2.2.1, s.2.2.2.2.2.2.1, (s.2.2.2.2.2.2.2.1 + s.2.2.2.2.2.2.2.2), (1 : Int32)) hf
  have h151 : ∀ (K8 : (Int32 × Int32 × Int32) → Option (Int32)), (∀ s : Int32 × Int32 × Int32, K8 s = some o → G E X 11 [] 0 0 [(0, .int p0), (1, .int p1), (2, .int p2), (3, .int s.1), (4, .int s.2.1), (5, .int s.2.2)] [] 8) → ∀ (K36 : (Int32 × Int32 × Int32 × Int32 × Int32) → Option (Int32)), (∀ s : Int32 × Int32 × Int32 × Int32 × Int32, K36 s = some o → G E X 11 [] 0 0 [(0, .int p0), (1, .int p1), (2, .int p2), (3, .int s.1), (4, .int s.2.1), (5, .int s.2.2.1), (6, .int s.2.2.2.1), (7, .int s.2.2.2.2)] [] 36) → ∀ s : Int32 × Int32 × Int32 × Int32 × Int32 × Int32 × Int32 × Int32 × Int32, b_L_looked_151 N p0 p1 p2 K8 K36 s = some o → G E X 11 [] 0 0 [(0, .int p0), (1, .int p1), (2, .int p2), (4, .int s.1), (5, .int s.2.1), (6, .int s.2.2.1), (7, .int s.2.2.2.1), (8, .int s.2.2.2.2.1), (10, .int s.2.2.2.2.2.1)] [.int s.2.2.2.2.2.2.2.2, .int s.2.2.2.2.2.2.2.1, .int s.2.2.2.2.2.2.1] 151 := by
    intro K8 hK8 K36 hK36 s hf
    unfold b_L_looked_151 at hf
    refine g_iadd C dL_looked_151 ?_
    refine g_iload C dL_looked_152 7 rfl ?_
    obtain ⟨o6, hq7, hf⟩ := bind_s hf
    refine g_callS (As := [.int s.2.2.2.2.1]) (rest := [.int (s.2.2.2.2.2.2.2.1 + s.2.2.2.2.2.2.2.2), .int s.2.2.2.2.2.2.1]) C k_L_isTwo (fun l => c_L_isTwo (E := E) hq7 l) mt_563 [] rfl (by decide) rfl (Nat.le_of_ble_eq_true rfl) ⟨Nat.le_of_ble_eq_true rfl, Nat.le_of_ble_eq_true rfl, Nat.le_of_ble_eq_true rfl, Nat.le_of_ble_eq_true rfl⟩ dL_looked_154 ?_
    rintro _ _ ⟨rfl, rfl⟩
    show G E X 11 [] 0 0 [(0, .int p0), (1, .int p1), (2, .int p2), (4, .int s.1), (5, .int s.2.1), (6, .int s.2.2.1), (7, .int s.2.2.2.1), (8, .int s.2.2.2.2.1), (10, .int s.2.2.2.2.2.1)] [.int o6, .int (s.2.2.2.2.2.2.2.1 + s.2.2.2.2.2.2.2.2), .int s.2.2.2.2.2.2.1] 157
    refine g_if_eq (tgt := 164) C dL_looked_157 (by decide) (fun c8 => ?_) (fun c8 => ?_)
    · have hf := (f_if hf).1 c8
      refine g_iconst (v := (0 : Int32)) C dL_looked_164 (by decide) ?_
      exact h165 K8 hK8 K36 hK36 (s.1, s.2.1, s.2.2.1, s.2.2.2.1, s.2.2.2.2.1, s.2.2.2.2.2.1, s.2.2.2.2.2.2.1, (s.2.2.2.2.2.2.2.1 + s.2.2.2.2.2.2.2.2), (0 : Int32)) hf
    · have hf := (f_if hf).2 c8
      refine g_iconst (v := (1 : Int32)) C dL_looked_160 (by decide) ?_
      refine g_goto (tgt := 165) C dL_looked_161 (by decide) ?_
      exact h165 K8 hK8 K36 hK36 (s.1, s.2.1, s.2.2.1, s.2.2.2.1, s.2.2.2.2.1, s.2.2.2.2.2.1, s.2.2.2.2.2.2.1, (s.2.2.2.2.2.2.2.1 + s.2.2.2.2.2.2.2.2), (1 : Int32)) hf
  have h129 : ∀ (K8 : (Int32 × Int32 × Int32) → Option (Int32)), (∀ s : Int32 × Int32 × Int32, K8 s = some o → G E X 11 [] 0 0 [(0, .int p0), (1, .int p1), (2, .int p2), (3, .int s.1), (4, .int s.2.1), (5, .int s.2.2)] [] 8) → ∀ (K36 : (Int32 × Int32 × Int32 × Int32 × Int32) → Option (Int32)), (∀ s : Int32 × Int32 × Int32 × Int32 × Int32, K36 s = some o → G E X 11 [] 0 0 [(0, .int p0), (1, .int p1), (2, .int p2), (3, .int s.1), (4, .int s.2.1), (5, .int s.2.2.1), (6, .int s.2.2.2.1), (7, .int s.2.2.2.2)] [] 36) → ∀ s : Int32 × Int32 × Int32 × Int32 × Int32 × Int32 × Int32 × Int32, b_L_looked_129 N p0 p1 p2 K8 K36 s = some o → G E X 11 [] 0 0 [(0, .int p0), (1, .int p1), (2, .int p2), (3, .int s.1), (4, .int s.2.1), (5, .int s.2.2.1), (6, .int s.2.2.2.1), (7, .int s.2.2.2.2.1), (8, .int s.2.2.2.2.2.1), (9, .int s.2.2.2.2.2.2.1)] [.int s.2.2.2.2.2.2.2] 129 := by
    intro K8 hK8 K36 hK36 s hf
    unfold b_L_looked_129 at hf
    refine g_istore (lv2 := [(10, .int s.2.2.2.2.2.2.2), (0, .int p0), (1, .int p1), (2, .int p2), (3, .int s.1), (4, .int s.2.1), (5, .int s.2.2.1), (6, .int s.2.2.2.1), (7, .int s.2.2.2.2.1), (8, .int s.2.2.2.2.2.1), (9, .int s.2.2.2.2.2.2.1)]) C dL_looked_129 (by decide) rfl ?_
    refine g_iload_n C dL_looked_131 rfl 4 rfl ?_
    refine g_iload C dL_looked_132 10 rfl ?_
    refine g_if_eq (tgt := 180) C dL_looked_134 (by decide) (fun c9 => ?_) (fun c9 => ?_)
    · have hf := (f_if hf).1 c9
      refine g_iconst (v := (0 : Int32)) C dL_looked_180 (by decide) ?_
      refine g_sub (lv2 := [(0, .int p0), (1, .int p1), (2, .int p2), (4, .int s.2.1), (5, .int s.2.2.1), (6, .int s.2.2.2.1), (7, .int s.2.2.2.2.1), (8, .int s.2.2.2.2.2.1)]) [1, 2, 3, 5, 6, 7, 8, 9] rfl ?_
      exact h181 K8 hK8 K36 hK36 (s.2.1, s.2.2.1, s.2.2.2.1, s.2.2.2.2.1, s.2.2.2.2.2.1, s.1, (0 : Int32)) hf
    · have hf := (f_if hf).2 c9
      refine g_iconst (v := (1 : Int32)) C dL_looked_137 (by decide) ?_
      refine g_iload C dL_looked_138 9 rfl ?_
      obtain ⟨o10, hq11, hf⟩ := bind_s hf
      refine g_callS (As := [.int s.2.2.2.2.2.1]) (rest := [.int (1 : Int32), .int s.1]) C k_L_isNot (fun l => c_L_isNot (E := E) hq11 l) mt_560 [] rfl (by decide) rfl (Nat.le_of_ble_eq_true rfl) ⟨Nat.le_of_ble_eq_true rfl, Nat.le_of_ble_eq_true rfl, Nat.le_of_ble_eq_true rfl, Nat.le_of_ble_eq_true rfl⟩ dL_looked_140 ?_
      rintro _ _ ⟨rfl, rfl⟩
      show G E X 11 [] 0 0 [(10, .int s.2.2.2.2.2.2.2), (0, .int p0), (1, .int p1), (2, .int p2), (3, .int s.1), (4, .int s.2.1), (5, .int s.2.2.1), (6, .int s.2.2.2.1), (7, .int s.2.2.2.2.1), (8, .int s.2.2.2.2.2.1), (9, .int s.2.2.2.2.2.2.1)] [.int o10, .int (1 : Int32), .int s.1] 143
      refine g_if_eq (tgt := 150) C dL_looked_143 (by decide) (fun c12 => ?_) (fun c12 => ?_)
      · have hf := (f_if hf).1 c12
        refine g_iconst (v := (0 : Int32)) C dL_looked_150 (by decide) ?_
        refine g_sub (lv2 := [(0, .int p0), (1, .int p1), (2, .int p2), (4, .int s.2.1), (5, .int s.2.2.1), (6, .int s.2.2.2.1), (7, .int s.2.2.2.2.1), (8, .int s.2.2.2.2.2.1), (10, .int s.2.2.2.2.2.2.2)]) [1, 2, 3, 5, 6, 7, 8, 9, 0] rfl ?_
        exact h151 K8 hK8 K36 hK36 (s.2.1, s.2.2.1, s.2.2.2.1, s.2.2.2.2.1, s.2.2.2.2.2.1, s.2.2.2.2.2.2.2, s.1, (1 : Int32), (0 : Int32)) hf
      · have hf := (f_if hf).2 c12
        refine g_iconst (v := (1 : Int32)) C dL_looked_146 (by decide) ?_
        refine g_goto (tgt := 151) C dL_looked_147 (by decide) ?_
        refine g_sub (lv2 := [(0, .int p0), (1, .int p1), (2, .int p2), (4, .int s.2.1), (5, .int s.2.2.1), (6, .int s.2.2.2.1), (7, .int s.2.2.2.2.1), (8, .int s.2.2.2.2.2.1), (10, .int s.2.2.2.2.2.2.2)]) [1, 2, 3, 5, 6, 7, 8, 9, 0] rfl ?_
        exact h151 K8 hK8 K36 hK36 (s.2.1, s.2.2.1, s.2.2.2.1, s.2.2.2.2.1, s.2.2.2.2.2.1, s.2.2.2.2.2.2.2, s.1, (1 : Int32), (1 : Int32)) hf
  have h128 : ∀ (K8 : (Int32 × Int32 × Int32) → Option (Int32)), (∀ s : Int32 × Int32 × Int32, K8 s = some o → G E X 11 [] 0 0 [(0, .int p0), (1, .int p1), (2, .int p2), (3, .int s.1), (4, .int s.2.1), (5, .int s.2.2)] [] 8) → ∀ (K36 : (Int32 × Int32 × Int32 × Int32 × Int32) → Option (Int32)), (∀ s : Int32 × Int32 × Int32 × Int32 × Int32, K36 s = some o → G E X 11 [] 0 0 [(0, .int p0), (1, .int p1), (2, .int p2), (3, .int s.1), (4, .int s.2.1), (5, .int s.2.2.1), (6, .int s.2.2.2.1), (7, .int s.2.2.2.2)] [] 36) → ∀ s : Int32 × Int32 × Int32 × Int32 × Int32 × Int32 × Int32, b_L_looked_128 N p0 p1 p2 K8 K36 s = some o → G E X 11 [] 0 0 [(0, .int p0), (1, .int p1), (2, .int p2), (3, .int s.1), (4, .int s.2.1), (5, .int s.2.2.1), (6, .int s.2.2.2.1), (7, .int s.2.2.2.2.1), (8, .int s.2.2.2.2.2.1), (9, .int s.2.2.2.2.2.2)] [] 128 := by
    intro K8 hK8 K36 hK36 s hf
    unfold b_L_looked_128 at hf
    refine g_iconst (v := (0 : Int32)) C dL_looked_128 (by decide) ?_
    exact h129 K8 hK8 K36 hK36 (s.1, s.2.1, s.2.2.1, s.2.2.2.1, s.2.2.2.2.1, s.2.2.2.2.2.1, s.2.2.2.2.2.2, (0 : Int32)) hf
  have h124 : ∀ (K8 : (Int32 × Int32 × Int32) → Option (Int32)), (∀ s : Int32 × Int32 × Int32, K8 s = some o → G E X 11 [] 0 0 [(0, .int p0), (1, .int p1), (2, .int p2), (3, .int s.1), (4, .int s.2.1), (5, .int s.2.2)] [] 8) → ∀ (K36 : (Int32 × Int32 × Int32 × Int32 × Int32) → Option (Int32)), (∀ s : Int32 × Int32 × Int32 × Int32 × Int32, K36 s = some o → G E X 11 [] 0 0 [(0, .int p0), (1, .int p1), (2, .int p2), (3, .int s.1), (4, .int s.2.1), (5, .int s.2.2.1), (6, .int s.2.2.2.1), (7, .int s.2.2.2.2)] [] 36) → ∀ s : Int32 × Int32 × Int32 × Int32 × Int32 × Int32 × Int32, b_L_looked_124 N p0 p1 p2 K8 K36 s = some o → G E X 11 [] 0 0 [(0, .int p0), (1, .int p1), (2, .int p2), (3, .int s.1), (4, .int s.2.1), (5, .int s.2.2.1), (6, .int s.2.2.2.1), (7, .int s.2.2.2.2.1), (8, .int s.2.2.2.2.2.1), (9, .int s.2.2.2.2.2.2)] [] 124 := by
    intro K8 hK8 K36 hK36 s hf
    unfold b_L_looked_124 at hf
    refine g_iconst (v := (1 : Int32)) C dL_looked_124 (by decide) ?_
    refine g_goto (tgt := 129) C dL_looked_125 (by decide) ?_
    exact h129 K8 hK8 K36 hK36 (s.1, s.2.1, s.2.2.1, s.2.2.2.1, s.2.2.2.2.1, s.2.2.2.2.2.1, s.2.2.2.2.2.2, (1 : Int32)) hf
  have h98 : ∀ (K8 : (Int32 × Int32 × Int32) → Option (Int32)), (∀ s : Int32 × Int32 × Int32, K8 s = some o → G E X 11 [] 0 0 [(0, .int p0), (1, .int p1), (2, .int p2), (3, .int s.1), (4, .int s.2.1), (5, .int s.2.2)] [] 8) → ∀ (K36 : (Int32 × Int32 × Int32 × Int32 × Int32) → Option (Int32)), (∀ s : Int32 × Int32 × Int32 × Int32 × Int32, K36 s = some o → G E X 11 [] 0 0 [(0, .int p0), (1, .int p1), (2, .int p2), (3, .int s.1), (4, .int s.2.1), (5, .int s.2.2.1), (6, .int s.2.2.2.1), (7, .int s.2.2.2.2)] [] 36) → ∀ s : Int32 × Int32 × Int32 × Int32 × Int32 × Int32 × Int32 × Int32, b_L_looked_98 N p0 p1 p2 K8 K36 s = some o → G E X 11 [] 0 0 [(0, .int p0), (1, .int p1), (2, .int p2), (4, .int s.1), (5, .int s.2.1), (6, .int s.2.2.1), (7, .int s.2.2.2.1), (8, .int s.2.2.2.2.1), (9, .int s.2.2.2.2.2.1)] [.int s.2.2.2.2.2.2.2, .int s.2.2.2.2.2.2.1] 98 := by
    intro K8 hK8 K36 hK36 s hf
    unfold b_L_looked_98 at hf
    refine g_iadd C dL_looked_98 ?_
    refine g_istore_n (lv2 := [(3, .int (s.2.2.2.2.2.2.1 + s.2.2.2.2.2.2.2)), (0, .int p0), (1, .int p1), (2, .int p2), (4, .int s.1), (5, .int s.2.1), (6, .int s.2.2.1), (7, .int s.2.2.2.1), (8, .int s.2.2.2.2.1), (9, .int s.2.2.2.2.2.1)]) C dL_looked_99 rfl (by decide) rfl ?_
    refine g_iload C dL_looked_100 8 rfl ?_
    obtain ⟨o13, hq14, hf⟩ := bind_s hf
    refine g_callS (As := [.int s.2.2.2.2.1]) (rest := []) C k_L_isTwo (fun l => c_L_isTwo (E := E) hq14 l) mt_563 [] rfl (by decide) rfl (Nat.le_of_ble_eq_true rfl) ⟨Nat.le_of_ble_eq_true rfl, Nat.le_of_ble_eq_true rfl, Nat.le_of_ble_eq_true rfl, Nat.le_of_ble_eq_true rfl⟩ dL_looked_102 ?_
    rintro _ _ ⟨rfl, rfl⟩
    show G E X 11 [] 0 0 [(3, .int (s.2.2.2.2.2.2.1 + s.2.2.2.2.2.2.2)), (0, .int p0), (1, .int p1), (2, .int p2), (4, .int s.1), (5, .int s.2.1), (6, .int s.2.2.1), (7, .int s.2.2.2.1), (8, .int s.2.2.2.2.1), (9, .int s.2.2.2.2.2.1)] [.int o13] 105
    refine g_if_eq (tgt := 128) C dL_looked_105 (by decide) (fun c15 => ?_) (fun c15 => ?_)
    · have hf := (f_if hf).1 c15
      refine g_sub (lv2 := [(0, .int p0), (1, .int p1), (2, .int p2), (3, .int (s.2.2.2.2.2.2.1 + s.2.2.2.2.2.2.2)), (4, .int s.1), (5, .int s.2.1), (6, .int s.2.2.1), (7, .int s.2.2.2.1), (8, .int s.2.2.2.2.1), (9, .int s.2.2.2.2.2.1)]) [1, 2, 3, 0, 4, 5, 6, 7, 8, 9] rfl ?_
      exact h128 K8 hK8 K36 hK36 ((s.2.2.2.2.2.2.1 + s.2.2.2.2.2.2.2), s.1, s.2.1, s.2.2.1, s.2.2.2.1, s.2.2.2.2.1, s.2.2.2.2.2.1) hf
    · have hf := (f_if hf).2 c15
      refine g_iload_n C dL_looked_108 rfl 3 rfl ?_
      refine g_if_ne (tgt := 124) C dL_looked_109 (by decide) (fun c16 => ?_) (fun c16 => ?_)
      · have hf := (f_if hf).2 c16
        refine g_sub (lv2 := [(0, .int p0), (1, .int p1), (2, .int p2), (3, .int (s.2.2.2.2.2.2.1 + s.2.2.2.2.2.2.2)), (4, .int s.1), (5, .int s.2.1), (6, .int s.2.2.1), (7, .int s.2.2.2.1), (8, .int s.2.2.2.2.1), (9, .int s.2.2.2.2.2.1)]) [1, 2, 3, 0, 4, 5, 6, 7, 8, 9] rfl ?_
        exact h124 K8 hK8 K36 hK36 ((s.2.2.2.2.2.2.1 + s.2.2.2.2.2.2.2), s.1, s.2.1, s.2.2.1, s.2.2.2.1, s.2.2.2.2.1, s.2.2.2.2.2.1) hf
      · have hf := (f_if hf).1 c16
        refine g_iload C dL_looked_112 8 rfl ?_
        obtain ⟨o17, hq18, hf⟩ := bind_s hf
        refine g_callS (As := [.int s.2.2.2.2.1]) (rest := []) C k_L_letter (fun l => c_L_letter (E := E) hq18 l) mt_566 [] rfl (by decide) rfl (Nat.le_of_ble_eq_true rfl) ⟨Nat.le_of_ble_eq_true rfl, Nat.le_of_ble_eq_true rfl, Nat.le_of_ble_eq_true rfl, Nat.le_of_ble_eq_true rfl⟩ dL_looked_114 ?_
        rintro _ _ ⟨rfl, rfl⟩
        show G E X 11 [] 0 0 [(3, .int (s.2.2.2.2.2.2.1 + s.2.2.2.2.2.2.2)), (0, .int p0), (1, .int p1), (2, .int p2), (4, .int s.1), (5, .int s.2.1), (6, .int s.2.2.1), (7, .int s.2.2.2.1), (8, .int s.2.2.2.2.1), (9, .int s.2.2.2.2.2.1)] [.int o17] 117
        refine g_iload_n C dL_looked_117 rfl 2 rfl ?_
        obtain ⟨o19, hq20, hf⟩ := bind_s hf
        refine g_callS (As := [.int o17, .int p1]) (rest := []) C k_L_isSo (fun l => c_L_isSo (E := E) hq20 l) mt_578 [] rfl (by decide) rfl (Nat.le_of_ble_eq_true rfl) ⟨Nat.le_of_ble_eq_true rfl, Nat.le_of_ble_eq_true rfl, Nat.le_of_ble_eq_true rfl, Nat.le_of_ble_eq_true rfl⟩ dL_looked_118 ?_
        rintro _ _ ⟨rfl, rfl⟩
        show G E X 11 [] 0 0 [(3, .int (s.2.2.2.2.2.2.1 + s.2.2.2.2.2.2.2)), (0, .int p0), (1, .int p1), (2, .int p2), (4, .int s.1), (5, .int s.2.1), (6, .int s.2.2.1), (7, .int s.2.2.2.1), (8, .int s.2.2.2.2.1), (9, .int s.2.2.2.2.2.1)] [.int o19] 121
        refine g_if_ne (tgt := 128) C dL_looked_121 (by decide) (fun c21 => ?_) (fun c21 => ?_)
        · have hf := (f_if hf).2 c21
          refine g_sub (lv2 := [(0, .int p0), (1, .int p1), (2, .int p2), (3, .int (s.2.2.2.2.2.2.1 + s.2.2.2.2.2.2.2)), (4, .int s.1), (5, .int s.2.1), (6, .int s.2.2.1), (7, .int s.2.2.2.1), (8, .int s.2.2.2.2.1), (9, .int s.2.2.2.2.2.1)]) [1, 2, 3, 0, 4, 5, 6, 7, 8, 9] rfl ?_
          exact h128 K8 hK8 K36 hK36 ((s.2.2.2.2.2.2.1 + s.2.2.2.2.2.2.2), s.1, s.2.1, s.2.2.1, s.2.2.2.1, s.2.2.2.2.1, s.2.2.2.2.2.1) hf
        · have hf := (f_if hf).1 c21
          refine g_sub (lv2 := [(0, .int p0), (1, .int p1), (2, .int p2), (3, .int (s.2.2.2.2.2.2.1 + s.2.2.2.2.2.2.2)), (4, .int s.1), (5, .int s.2.1), (6, .int s.2.2.1), (7, .int s.2.2.2.1), (8, .int s.2.2.2.2.1), (9, .int s.2.2.2.2.2.1)]) [1, 2, 3, 0, 4, 5, 6, 7, 8, 9] rfl ?_
          exact h124 K8 hK8 K36 hK36 ((s.2.2.2.2.2.2.1 + s.2.2.2.2.2.2.2), s.1, s.2.1, s.2.2.1, s.2.2.2.1, s.2.2.2.2.1, s.2.2.2.2.2.1) hf
  have h97 : ∀ (K8 : (Int32 × Int32 × Int32) → Option (Int32)), (∀ s : Int32 × Int32 × Int32, K8 s = some o → G E X 11 [] 0 0 [(0, .int p0), (1, .int p1), (2, .int p2), (3, .int s.1), (4, .int s.2.1), (5, .int s.2.2)] [] 8) → ∀ (K36 : (Int32 × Int32 × Int32 × Int32 × Int32) → Option (Int32)), (∀ s : Int32 × Int32 × Int32 × Int32 × Int32, K36 s = some o → G E X 11 [] 0 0 [(0, .int p0), (1, .int p1), (2, .int p2), (3, .int s.1), (4, .int s.2.1), (5, .int s.2.2.1), (6, .int s.2.2.2.1), (7, .int s.2.2.2.2)] [] 36) → ∀ s : Int32 × Int32 × Int32 × Int32 × Int32 × Int32 × Int32, b_L_looked_97 N p0 p1 p2 K8 K36 s = some o → G E X 11 [] 0 0 [(0, .int p0), (1, .int p1), (2, .int p2), (4, .int s.1), (5, .int s.2.1), (6, .int s.2.2.1), (7, .int s.2.2.2.1), (8, .int s.2.2.2.2.1), (9, .int s.2.2.2.2.2.1)] [.int s.2.2.2.2.2.2] 97 := by
    intro K8 hK8 K36 hK36 s hf
    unfold b_L_looked_97 at hf
    refine g_iconst (v := (0 : Int32)) C dL_looked_97 (by decide) ?_
    exact h98 K8 hK8 K36 hK36 (s.1, s.2.1, s.2.2.1, s.2.2.2.1, s.2.2.2.2.1, s.2.2.2.2.2.1, s.2.2.2.2.2.2, (0 : Int32)) hf
  have h93 : ∀ (K8 : (Int32 × Int32 × Int32) → Option (Int32)), (∀ s : Int32 × Int32 × Int32, K8 s = some o → G E X 11 [] 0 0 [(0, .int p0), (1, .int p1), (2, .int p2), (3, .int s.1), (4, .int s.2.1), (5, .int s.2.2)] [] 8) → ∀ (K36 : (Int32 × Int32 × Int32 × Int32 × Int32) → Option (Int32)), (∀ s : Int32 × Int32 × Int32 × Int32 × Int32, K36 s = some o → G E X 11 [] 0 0 [(0, .int p0), (1, .int p1), (2, .int p2), (3, .int s.1), (4, .int s.2.1), (5, .int s.2.2.1), (6, .int s.2.2.2.1), (7, .int s.2.2.2.2)] [] 36) → ∀ s : Int32 × Int32 × Int32 × Int32 × Int32 × Int32 × Int32, b_L_looked_93 N p0 p1 p2 K8 K36 s = some o → G E X 11 [] 0 0 [(0, .int p0), (1, .int p1), (2, .int p2), (4, .int s.1), (5, .int s.2.1), (6, .int s.2.2.1), (7, .int s.2.2.2.1), (8, .int s.2.2.2.2.1), (9, .int s.2.2.2.2.2.1)] [.int s.2.2.2.2.2.2] 93 := by
    intro K8 hK8 K36 hK36 s hf
    unfold b_L_looked_93 at hf
    refine g_iconst (v := (1 : Int32)) C dL_looked_93 (by decide) ?_
    refine g_goto (tgt := 98) C dL_looked_94 (by decide) ?_
    exact h98 K8 hK8 K36 hK36 (s.1, s.2.1, s.2.2.1, s.2.2.2.1, s.2.2.2.2.1, s.2.2.2.2.2.1, s.2.2.2.2.2.2, (1 : Int32)) hf
  have h76 : ∀ (K8 : (Int32 × Int32 × Int32) → Option (Int32)), (∀ s : Int32 × Int32 × Int32, K8 s = some o → G E X 11 [] 0 0 [(0, .int p0), (1, .int p1), (2, .int p2), (3, .int s.1), (4, .int s.2.1), (5, .int s.2.2)] [] 8) → ∀ (K36 : (Int32 × Int32 × Int32 × Int32 × Int32) → Option (Int32)), (∀ s : Int32 × Int32 × Int32 × Int32 × Int32, K36 s = some o → G E X 11 [] 0 0 [(0, .int p0), (1, .int p1), (2, .int p2), (3, .int s.1), (4, .int s.2.1), (5, .int s.2.2.1), (6, .int s.2.2.2.1), (7, .int s.2.2.2.2)] [] 36) → ∀ s : Int32 × Int32 × Int32 × Int32 × Int32 × Int32 × Int32, b_L_looked_76 N p0 p1 p2 K8 K36 s = some o → G E X 11 [] 0 0 [(0, .int p0), (1, .int p1), (2, .int p2), (3, .int s.1), (4, .int s.2.1), (5, .int s.2.2.1), (6, .int s.2.2.2.1), (7, .int s.2.2.2.2.1), (8, .int s.2.2.2.2.2.1)] [.int s.2.2.2.2.2.2] 76 := by
    intro K8 hK8 K36 hK36 s hf
    unfold b_L_looked_76 at hf
    refine g_istore (lv2 := [(9, .int s.2.2.2.2.2.2), (0, .int p0), (1, .int p1), (2, .int p2), (3, .int s.1), (4, .int s.2.1), (5, .int s.2.2.1), (6, .int s.2.2.2.1), (7, .int s.2.2.2.2.1), (8, .int s.2.2.2.2.2.1)]) C dL_looked_76 (by decide) rfl ?_
    refine g_iload_n C dL_looked_78 rfl 4 rfl ?_
    refine g_iload C dL_looked_79 8 rfl ?_
    refine g_if_le (tgt := 97) C dL_looked_81 (by decide) (fun c22 => ?_) (fun c22 => ?_)
    · have hf := (f_if hf).1 c22
      refine g_sub (lv2 := [(0, .int p0), (1, .int p1), (2, .int p2), (4, .int s.2.1), (5, .int s.2.2.1), (6, .int s.2.2.2.1), (7, .int s.2.2.2.2.1), (8, .int s.2.2.2.2.2.1), (9, .int s.2.2.2.2.2.2)]) [1, 2, 3, 5, 6, 7, 8, 9, 0] rfl ?_
      exact h97 K8 hK8 K36 hK36 (s.2.1, s.2.2.1, s.2.2.2.1, s.2.2.2.2.1, s.2.2.2.2.2.1, s.2.2.2.2.2.2, s.1) hf
    · have hf := (f_if hf).2 c22
      refine g_iload_n C dL_looked_84 rfl 3 rfl ?_
      refine g_if_ne (tgt := 93) C dL_looked_85 (by decide) (fun c23 => ?_) (fun c23 => ?_)
      · have hf := (f_if hf).2 c23
        refine g_sub (lv2 := [(0, .int p0), (1, .int p1), (2, .int p2), (4, .int s.2.1), (5, .int s.2.2.1), (6, .int s.2.2.2.1), (7, .int s.2.2.2.2.1), (8, .int s.2.2.2.2.2.1), (9, .int s.2.2.2.2.2.2)]) [1, 2, 3, 5, 6, 7, 8, 9, 0] rfl ?_
        exact h93 K8 hK8 K36 hK36 (s.2.1, s.2.2.1, s.2.2.2.1, s.2.2.2.2.1, s.2.2.2.2.2.1, s.2.2.2.2.2.2, s.1) hf
      · have hf := (f_if hf).1 c23
        refine g_iload C dL_looked_88 5 rfl ?_
        refine g_if_ne (tgt := 97) C dL_looked_90 (by decide) (fun c24 => ?_) (fun c24 => ?_)
        · have hf := (f_if hf).2 c24
          refine g_sub (lv2 := [(0, .int p0), (1, .int p1), (2, .int p2), (4, .int s.2.1), (5, .int s.2.2.1), (6, .int s.2.2.2.1), (7, .int s.2.2.2.2.1), (8, .int s.2.2.2.2.2.1), (9, .int s.2.2.2.2.2.2)]) [1, 2, 3, 5, 6, 7, 8, 9, 0] rfl ?_
          exact h97 K8 hK8 K36 hK36 (s.2.1, s.2.2.1, s.2.2.2.1, s.2.2.2.2.1, s.2.2.2.2.2.1, s.2.2.2.2.2.2, s.1) hf
        · have hf := (f_if hf).1 c24
          refine g_sub (lv2 := [(0, .int p0), (1, .int p1), (2, .int p2), (4, .int s.2.1), (5, .int s.2.2.1), (6, .int s.2.2.2.1), (7, .int s.2.2.2.2.1), (8, .int s.2.2.2.2.2.1), (9, .int s.2.2.2.2.2.2)]) [1, 2, 3, 5, 6, 7, 8, 9, 0] rfl ?_
          exact h93 K8 hK8 K36 hK36 (s.2.1, s.2.2.1, s.2.2.2.1, s.2.2.2.2.1, s.2.2.2.2.2.1, s.2.2.2.2.2.2, s.1) hf
  have h75 : ∀ (K8 : (Int32 × Int32 × Int32) → Option (Int32)), (∀ s : Int32 × Int32 × Int32, K8 s = some o → G E X 11 [] 0 0 [(0, .int p0), (1, .int p1), (2, .int p2), (3, .int s.1), (4, .int s.2.1), (5, .int s.2.2)] [] 8) → ∀ (K36 : (Int32 × Int32 × Int32 × Int32 × Int32) → Option (Int32)), (∀ s : Int32 × Int32 × Int32 × Int32 × Int32, K36 s = some o → G E X 11 [] 0 0 [(0, .int p0), (1, .int p1), (2, .int p2), (3, .int s.1), (4, .int s.2.1), (5, .int s.2.2.1), (6, .int s.2.2.2.1), (7, .int s.2.2.2.2)] [] 36) → ∀ s : Int32 × Int32 × Int32 × Int32 × Int32 × Int32, b_L_looked_75 N p0 p1 p2 K8 K36 s = some o → G E X 11 [] 0 0 [(0, .int p0), (1, .int p1), (2, .int p2), (3, .int s.1), (4, .int s.2.1), (5, .int s.2.2.1), (6, .int s.2.2.2.1), (7, .int s.2.2.2.2.1), (8, .int s.2.2.2.2.2)] [] 75 := by
    intro K8 hK8 K36 hK36 s hf
    unfold b_L_looked_75 at hf
    refine g_iconst (v := (0 : Int32)) C dL_looked_75 (by decide) ?_
    exact h76 K8 hK8 K36 hK36 (s.1, s.2.1, s.2.2.1, s.2.2.2.1, s.2.2.2.2.1, s.2.2.2.2.2, (0 : Int32)) hf
  have h71 : ∀ (K8 : (Int32 × Int32 × Int32) → Option (Int32)), (∀ s : Int32 × Int32 × Int32, K8 s = some o → G E X 11 [] 0 0 [(0, .int p0), (1, .int p1), (2, .int p2), (3, .int s.1), (4, .int s.2.1), (5, .int s.2.2)] [] 8) → ∀ (K36 : (Int32 × Int32 × Int32 × Int32 × Int32) → Option (Int32)), (∀ s : Int32 × Int32 × Int32 × Int32 × Int32, K36 s = some o → G E X 11 [] 0 0 [(0, .int p0), (1, .int p1), (2, .int p2), (3, .int s.1), (4, .int s.2.1), (5, .int s.2.2.1), (6, .int s.2.2.2.1), (7, .int s.2.2.2.2)] [] 36) → ∀ s : Int32 × Int32 × Int32 × Int32 × Int32 × Int32, b_L_looked_71 N p0 p1 p2 K8 K36 s = some o → G E X 11 [] 0 0 [(0, .int p0), (1, .int p1), (2, .int p2), (3, .int s.1), (4, .int s.2.1), (5, .int s.2.2.1), (6, .int s.2.2.2.1), (7, .int s.2.2.2.2.1), (8, .int s.2.2.2.2.2)] [] 71 := by
    intro K8 hK8 K36 hK36 s hf
    unfold b_L_looked_71 at hf
    refine g_iconst (v := (1 : Int32)) C dL_looked_71 (by decide) ?_
    refine g_goto (tgt := 76) C dL_looked_72 (by decide) ?_
    exact h76 K8 hK8 K36 hK36 (s.1, s.2.1, s.2.2.1, s.2.2.2.1, s.2.2.2.2.1, s.2.2.2.2.2, (1 : Int32)) hf
  have h36 : ∀ (K8 : (Int32 × Int32 × Int32) → Option (Int32)), (∀ s : Int32 × Int32 × Int32, K8 s = some o → G E X 11 [] 0 0 [(0, .int p0), (1, .int p1), (2, .int p2), (3, .int s.1), (4, .int s.2.1), (5, .int s.2.2)] [] 8) → ∀ (n : Nat) (s : Int32 × Int32 × Int32 × Int32 × Int32), lp (b_L_looked_36 N p0 p1 p2 K8) n s = some o → G E X 11 [] 0 0 [(0, .int p0), (1, .int p1), (2, .int p2), (3, .int s.1), (4, .int s.2.1), (5, .int s.2.2.1), (6, .int s.2.2.2.1), (7, .int s.2.2.2.2)] [] 36 := by
    intro K8 hK8 
    refine lp_ind ?_
    intro K36 hK36 s hf
    unfold b_L_looked_36 at hf
    refine g_iload C dL_looked_36 7 rfl ?_
    refine g_iload_n C dL_looked_38 rfl 0 rfl ?_
    refine g_iload C dL_looked_39 5 rfl ?_
    obtain ⟨o25, hq26, hf⟩ := bind_s hf
    refine g_callS (As := [.int p0, .int s.2.2.1]) (rest := [.int s.2.2.2.2]) C k_L_partsOf (fun l => c_L_partsOf (E := E) hq26 l) mt_554 [] rfl (by decide) rfl (Nat.le_of_ble_eq_true rfl) ⟨Nat.le_of_ble_eq_true rfl, Nat.le_of_ble_eq_true rfl, Nat.le_of_ble_eq_true rfl, Nat.le_of_ble_eq_true rfl⟩ dL_looked_41 ?_
    rintro _ _ ⟨rfl, rfl⟩
    show G E X 11 [] 0 0 [(0, .int p0), (1, .int p1), (2, .int p2), (3, .int s.1), (4, .int s.2.1), (5, .int s.2.2.1), (6, .int s.2.2.2.1), (7, .int s.2.2.2.2)] [.int o25, .int s.2.2.2.2] 44
    refine g_icmp_ge (tgt := 210) C dL_looked_44 (by decide) (fun c27 => ?_) (fun c27 => ?_)
    · have hf := (f_if hf).1 c27
      refine g_iload C dL_looked_210 4 rfl ?_
      refine g_if_ne (tgt := 220) C dL_looked_212 (by decide) (fun c28 => ?_) (fun c28 => ?_)
      · have hf := (f_if hf).2 c28
        refine g_sub (lv2 := [(0, .int p0), (1, .int p1), (2, .int p2), (3, .int s.1), (5, .int s.2.2.1)]) [0, 1, 2, 3, 5] rfl ?_
        exact h220 K8 hK8 (s.1, s.2.2.1) hf
      · have hf := (f_if hf).1 c28
        refine g_iload C dL_looked_215 6 rfl ?_
        refine g_if_eq (tgt := 224) C dL_looked_217 (by decide) (fun c29 => ?_) (fun c29 => ?_)
        · have hf := (f_if hf).1 c29
          refine g_iconst (v := (0 : Int32)) C dL_looked_224 (by decide) ?_
          refine g_sub (lv2 := [(0, .int p0), (1, .int p1), (2, .int p2), (3, .int s.1), (5, .int s.2.2.1)]) [0, 1, 2, 3, 5] rfl ?_
          exact h225 K8 hK8 (s.1, s.2.2.1, (0 : Int32)) hf
        · have hf := (f_if hf).2 c29
          refine g_sub (lv2 := [(0, .int p0), (1, .int p1), (2, .int p2), (3, .int s.1), (5, .int s.2.2.1)]) [0, 1, 2, 3, 5] rfl ?_
          exact h220 K8 hK8 (s.1, s.2.2.1) hf
    · have hf := (f_if hf).2 c27
      refine g_iload_n C dL_looked_47 rfl 0 rfl ?_
      refine g_iload C dL_looked_48 5 rfl ?_
      refine g_iload C dL_looked_50 7 rfl ?_
      obtain ⟨o30, hq31, hf⟩ := bind_s hf
      refine g_callS (As := [.int p0, .int s.2.2.1, .int s.2.2.2.2]) (rest := []) C k_L_part (fun l => c_L_part (E := E) hq31 l) mt_557 [] rfl (by decide) rfl (Nat.le_of_ble_eq_true rfl) ⟨Nat.le_of_ble_eq_true rfl, Nat.le_of_ble_eq_true rfl, Nat.le_of_ble_eq_true rfl, Nat.le_of_ble_eq_true rfl⟩ dL_looked_52 ?_
      rintro _ _ ⟨rfl, rfl⟩
      show G E X 11 [] 0 0 [(0, .int p0), (1, .int p1), (2, .int p2), (3, .int s.1), (4, .int s.2.1), (5, .int s.2.2.1), (6, .int s.2.2.2.1), (7, .int s.2.2.2.2)] [.int o30] 55
      refine g_istore (lv2 := [(8, .int o30), (0, .int p0), (1, .int p1), (2, .int p2), (3, .int s.1), (4, .int s.2.1), (5, .int s.2.2.1), (6, .int s.2.2.2.1), (7, .int s.2.2.2.2)]) C dL_looked_55 (by decide) rfl ?_
      refine g_iload_n C dL_looked_57 rfl 3 rfl ?_
      refine g_if_ne (tgt := 71) C dL_looked_58 (by decide) (fun c32 => ?_) (fun c32 => ?_)
      · have hf := (f_if hf).2 c32
        refine g_sub (lv2 := [(0, .int p0), (1, .int p1), (2, .int p2), (3, .int s.1), (4, .int s.2.1), (5, .int s.2.2.1), (6, .int s.2.2.2.1), (7, .int s.2.2.2.2), (8, .int o30)]) [1, 2, 3, 4, 5, 6, 7, 8, 0] rfl ?_
        exact h71 K8 hK8 K36 hK36 (s.1, s.2.1, s.2.2.1, s.2.2.2.1, s.2.2.2.2, o30) hf
      · have hf := (f_if hf).1 c32
        refine g_iload C dL_looked_61 5 rfl ?_
        refine g_if_ne (tgt := 75) C dL_looked_63 (by decide) (fun c33 => ?_) (fun c33 => ?_)
        · have hf := (f_if hf).2 c33
          refine g_sub (lv2 := [(0, .int p0), (1, .int p1), (2, .int p2), (3, .int s.1), (4, .int s.2.1), (5, .int s.2.2.1), (6, .int s.2.2.2.1), (7, .int s.2.2.2.2), (8, .int o30)]) [1, 2, 3, 4, 5, 6, 7, 8, 0] rfl ?_
          exact h75 K8 hK8 K36 hK36 (s.1, s.2.1, s.2.2.1, s.2.2.2.1, s.2.2.2.2, o30) hf
        · have hf := (f_if hf).1 c33
          refine g_iload C dL_looked_66 7 rfl ?_
          refine g_if_eq (tgt := 75) C dL_looked_68 (by decide) (fun c34 => ?_) (fun c34 => ?_)
          · have hf := (f_if hf).1 c34
            refine g_sub (lv2 := [(0, .int p0), (1, .int p1), (2, .int p2), (3, .int s.1), (4, .int s.2.1), (5, .int s.2.2.1), (6, .int s.2.2.2.1), (7, .int s.2.2.2.2), (8, .int o30)]) [1, 2, 3, 4, 5, 6, 7, 8, 0] rfl ?_
            exact h75 K8 hK8 K36 hK36 (s.1, s.2.1, s.2.2.1, s.2.2.2.1, s.2.2.2.2, o30) hf
          · have hf := (f_if hf).2 c34
            refine g_sub (lv2 := [(0, .int p0), (1, .int p1), (2, .int p2), (3, .int s.1), (4, .int s.2.1), (5, .int s.2.2.1), (6, .int s.2.2.2.1), (7, .int s.2.2.2.2), (8, .int o30)]) [1, 2, 3, 4, 5, 6, 7, 8, 0] rfl ?_
            exact h71 K8 hK8 K36 hK36 (s.1, s.2.1, s.2.2.1, s.2.2.2.1, s.2.2.2.2, o30) hf
  have h28 : ∀ (K8 : (Int32 × Int32 × Int32) → Option (Int32)), (∀ s : Int32 × Int32 × Int32, K8 s = some o → G E X 11 [] 0 0 [(0, .int p0), (1, .int p1), (2, .int p2), (3, .int s.1), (4, .int s.2.1), (5, .int s.2.2)] [] 8) → ∀ s : Int32 × Int32 × Int32 × Int32, b_L_looked_28 N p0 p1 p2 K8 s = some o → G E X 11 [] 0 0 [(0, .int p0), (1, .int p1), (2, .int p2), (4, .int s.1), (5, .int s.2.1)] [.int s.2.2.2, .int s.2.2.1] 28 := by
    intro K8 hK8 s hf
    unfold b_L_looked_28 at hf
    refine g_iadd C dL_looked_28 ?_
    refine g_istore_n (lv2 := [(3, .int (s.2.2.1 + s.2.2.2)), (0, .int p0), (1, .int p1), (2, .int p2), (4, .int s.1), (5, .int s.2.1)]) C dL_looked_29 rfl (by decide) rfl ?_
    refine g_iconst (v := (1 : Int32)) C dL_looked_30 (by decide) ?_
    refine g_istore (lv2 := [(6, .int (1 : Int32)), (3, .int (s.2.2.1 + s.2.2.2)), (0, .int p0), (1, .int p1), (2, .int p2), (4, .int s.1), (5, .int s.2.1)]) C dL_looked_31 (by decide) rfl ?_
    refine g_iconst (v := (0 : Int32)) C dL_looked_33 (by decide) ?_
    refine g_istore (lv2 := [(7, .int (0 : Int32)), (6, .int (1 : Int32)), (3, .int (s.2.2.1 + s.2.2.2)), (0, .int p0), (1, .int p1), (2, .int p2), (4, .int s.1), (5, .int s.2.1)]) C dL_looked_34 (by decide) rfl ?_
    refine g_sub (lv2 := [(0, .int p0), (1, .int p1), (2, .int p2), (3, .int (s.2.2.1 + s.2.2.2)), (4, .int s.1), (5, .int s.2.1), (6, .int (1 : Int32)), (7, .int (0 : Int32))]) [3, 4, 5, 2, 6, 7, 1, 0] rfl ?_
    exact h36 K8 hK8 N ((s.2.2.1 + s.2.2.2), s.1, s.2.1, (1 : Int32), (0 : Int32)) hf
  have h8 : ∀ (n : Nat) (s : Int32 × Int32 × Int32), lp (b_L_looked_8 N p0 p1 p2) n s = some o → G E X 11 [] 0 0 [(0, .int p0), (1, .int p1), (2, .int p2), (3, .int s.1), (4, .int s.2.1), (5, .int s.2.2)] [] 8 := by
    refine lp_ind ?_
    intro K8 hK8 s hf
    unfold b_L_looked_8 at hf
    refine g_iload C dL_looked_8 5 rfl ?_
    refine g_iload_n C dL_looked_10 rfl 0 rfl ?_
    obtain ⟨o35, hq36, hf⟩ := bind_s hf
    refine g_callS (As := [.int p0]) (rest := [.int s.2.2]) C k_L_rows (fun l => c_L_rows (E := E) hq36 l) mt_533 [] rfl (by decide) rfl (Nat.le_of_ble_eq_true rfl) ⟨Nat.le_of_ble_eq_true rfl, Nat.le_of_ble_eq_true rfl, Nat.le_of_ble_eq_true rfl, Nat.le_of_ble_eq_true rfl⟩ dL_looked_11 ?_
    rintro _ _ ⟨rfl, rfl⟩
    show G E X 11 [] 0 0 [(0, .int p0), (1, .int p1), (2, .int p2), (3, .int s.1), (4, .int s.2.1), (5, .int s.2.2)] [.int o35, .int s.2.2] 14
    refine g_icmp_ge (tgt := 233) C dL_looked_14 (by decide) (fun c37 => ?_) (fun c37 => ?_)
    · have hf := (f_if hf).1 c37
      refine g_iload_n C dL_looked_233 rfl 3 rfl ?_
      obtain rfl := Option.some.inj hf
      exact g_iret C K dL_looked_234 (Nat.le_of_ble_eq_true rfl) (Nat.le_of_ble_eq_true rfl) ⟨rfl, rfl⟩
    · have hf := (f_if hf).2 c37
      refine g_iload_n C dL_looked_17 rfl 3 rfl ?_
      refine g_iload C dL_looked_18 5 rfl ?_
      refine g_if_le (tgt := 27) C dL_looked_20 (by decide) (fun c38 => ?_) (fun c38 => ?_)
      · have hf := (f_if hf).1 c38
        refine g_iconst (v := (0 : Int32)) C dL_looked_27 (by decide) ?_
        refine g_sub (lv2 := [(0, .int p0), (1, .int p1), (2, .int p2), (4, .int s.2.1), (5, .int s.2.2)]) [0, 1, 2, 4, 5] rfl ?_
        exact h28 K8 hK8 (s.2.1, s.2.2, s.1, (0 : Int32)) hf
      · have hf := (f_if hf).2 c38
        refine g_iconst (v := (1 : Int32)) C dL_looked_23 (by decide) ?_
        refine g_goto (tgt := 28) C dL_looked_24 (by decide) ?_
        refine g_sub (lv2 := [(0, .int p0), (1, .int p1), (2, .int p2), (4, .int s.2.1), (5, .int s.2.2)]) [0, 1, 2, 4, 5] rfl ?_
        exact h28 K8 hK8 (s.2.1, s.2.2, s.1, (1 : Int32)) hf
  unfold f_L_looked at hf
  refine g_iconst (v := (0 : Int32)) C dL_looked_0 (by decide) ?_
  refine g_istore_n (lv2 := [(3, .int (0 : Int32)), (0, .int p0), (1, .int p1), (2, .int p2)]) C dL_looked_1 rfl (by decide) rfl ?_
  refine g_iconst (v := (0 : Int32)) C dL_looked_2 (by decide) ?_
  refine g_istore (lv2 := [(4, .int (0 : Int32)), (3, .int (0 : Int32)), (0, .int p0), (1, .int p1), (2, .int p2)]) C dL_looked_3 (by decide) rfl ?_
  refine g_iconst (v := (0 : Int32)) C dL_looked_5 (by decide) ?_
  refine g_istore (lv2 := [(5, .int (0 : Int32)), (4, .int (0 : Int32)), (3, .int (0 : Int32)), (0, .int p0), (1, .int p1), (2, .int p2)]) C dL_looked_6 (by decide) rfl ?_
  refine g_sub (lv2 := [(0, .int p0), (1, .int p1), (2, .int p2), (3, .int (0 : Int32)), (4, .int (0 : Int32)), (5, .int (0 : Int32))]) [3, 4, 5, 2, 1, 0] rfl ?_
  exact h8 N ((0 : Int32), (0 : Int32), (0 : Int32)) hf
def b_L_deep_118 (N : Nat) (p0 : Int32) (K4 : (Int32 × Int32) → Option (Int32)) (s : Int32 × Int32) : Option (Int32) := K4 (s.2, (s.1 + (1 : Int32)))
def b_L_deep_117 (N : Nat) (p0 : Int32) (K4 : (Int32 × Int32) → Option (Int32)) (s : Int32 × Int32 × Int32) : Option (Int32) := b_L_deep_118 N p0 K4 (s.1, (s.2.1 + s.2.2))
def b_L_deep_91 (N : Nat) (p0 : Int32) (K4 : (Int32 × Int32) → Option (Int32)) (K17 : (Int32 × Int32 × Int32 × Int32) → Option (Int32)) (s : Int32 × Int32 × Int32 × Int32) : Option (Int32) := K17 (s.1, s.2.1, s.2.2.2, (s.2.2.1 + (1 : Int32)))
def b_L_deep_90 (N : Nat) (p0 : Int32) (K4 : (Int32 × Int32) → Option (Int32)) (K17 : (Int32 × Int32 × Int32 × Int32) → Option (Int32)) (s : Int32 × Int32 × Int32 × Int32 × Int32) : Option (Int32) := b_L_deep_91 N p0 K4 K17 (s.1, s.2.1, s.2.2.1, (s.2.2.2.1 + s.2.2.2.2))
def b_L_deep_64 (N : Nat) (p0 : Int32) (K4 : (Int32 × Int32) → Option (Int32)) (K17 : (Int32 × Int32 × Int32 × Int32) → Option (Int32)) (s : Int32 × Int32 × Int32 × Int32 × Int32 × Int32) : Option (Int32) := (if s.2.2.2.1 = 0 then b_L_deep_91 N p0 K4 K17 (s.1, s.2.1, s.2.2.2.1, (s.2.2.2.2.1 + s.2.2.2.2.2)) else (if s.2.2.1 ≤ (s.2.2.2.2.1 + s.2.2.2.2.2) then b_L_deep_90 N p0 K4 K17 (s.1, s.2.1, s.2.2.2.1, (1 : Int32), (s.2.2.2.2.1 + s.2.2.2.2.2)) else b_L_deep_90 N p0 K4 K17 (s.1, s.2.1, s.2.2.2.1, (1 : Int32), s.2.2.1)))
def b_L_deep_50 (N : Nat) (p0 : Int32) (K4 : (Int32 × Int32) → Option (Int32)) (K17 : (Int32 × Int32 × Int32 × Int32) → Option (Int32)) (s : Int32 × Int32 × Int32 × Int32 × Int32 × Int32 × Int32) : Option (Int32) := ((f_L_isTwo s.2.2.2.2.1).bind fun o3 => (if o3 = 0 then b_L_deep_64 N p0 K4 K17 (s.1, s.2.1, s.2.2.1, s.2.2.2.1, (s.2.2.2.2.2.1 + s.2.2.2.2.2.2), (0 : Int32)) else b_L_deep_64 N p0 K4 K17 (s.1, s.2.1, s.2.2.1, s.2.2.2.1, (s.2.2.2.2.2.1 + s.2.2.2.2.2.2), (1 : Int32))))
def b_L_deep_17 (N : Nat) (p0 : Int32) (K4 : (Int32 × Int32) → Option (Int32)) (K17 : (Int32 × Int32 × Int32 × Int32) → Option (Int32)) (s : Int32 × Int32 × Int32 × Int32) : Option (Int32) := ((f_L_partsOf p0 s.2.1).bind fun o6 => (if o6 ≤ s.2.2.2 then (if s.2.1 = 0 then b_L_deep_118 N p0 K4 (s.2.1, s.2.2.1) else (if s.1 ≤ s.2.2.1 then b_L_deep_117 N p0 K4 (s.2.1, (1 : Int32), s.2.2.1) else b_L_deep_117 N p0 K4 (s.2.1, (1 : Int32), s.1))) else ((f_L_part p0 s.2.1 s.2.2.2).bind fun o11 => ((f_L_isNot o11).bind fun o13 => (if o13 = 0 then b_L_deep_50 N p0 K4 K17 (s.1, s.2.1, s.2.2.1, s.2.2.2, o11, (1 : Int32), (0 : Int32)) else b_L_deep_50 N p0 K4 K17 (s.1, s.2.1, s.2.2.1, s.2.2.2, o11, (1 : Int32), (1 : Int32)))))))
def b_L_deep_4 (N : Nat) (p0 : Int32) (K4 : (Int32 × Int32) → Option (Int32)) (s : Int32 × Int32) : Option (Int32) := ((f_L_rows p0).bind fun o16 => (if o16 ≤ s.2 then some s.1 else lp (b_L_deep_17 N p0 K4) N (s.1, s.2, (0 : Int32), (0 : Int32))))
def f_L_deep (N : Nat) (p0 : Int32) : Option (Int32) := lp (b_L_deep_4 N p0) N ((0 : Int32), (0 : Int32))
abbrev rm_L_deep : Room := { frames := 2, cells := 0, slots := 0, locals := 42 }
set_option maxRecDepth 100000 in
theorem k_L_deep : CFs yL_deep cL_deep 7 (some .int) 1 := ⟨mt_592, mt_0, mt_593, ⟨by decide +kernel, by decide +kernel, by decide +kernel⟩⟩
set_option maxHeartbeats 4000000 in
set_option maxRecDepth 100000 in
theorem c_L_deep {E : Ev} {p0 : Int32} {N : Nat} {o : Int32} (hf : f_L_deep N p0 = some o) : ∀ l, MG l yL_deep cL_deep 7 (some .int) rm_L_deep E [.int p0] [] (fun v Y => v = some (.int o) ∧ Y = []) := by
  refine MG.mk (own := RL) (lv0 := [(0, .int p0)]) (by decide) rfl (Nat.le_of_ble_eq_true rfl) rfl (fun X C K I => ?_)
  have h118 : ∀ (K4 : (Int32 × Int32) → Option (Int32)), (∀ s : Int32 × Int32, K4 s = some o → G E X 7 [] 0 0 [(0, .int p0), (1, .int s.1), (2, .int s.2)] [] 4) → ∀ s : Int32 × Int32, b_L_deep_118 N p0 K4 s = some o → G E X 7 [] 0 0 [(0, .int p0), (2, .int s.1)] [.int s.2] 118 := by
    intro K4 hK4 s hf
    unfold b_L_deep_118 at hf
    refine g_istore_n (lv2 := [(1, .int s.2), (0, .int p0), (2, .int s.1)]) C dL_deep_118 rfl (by decide) rfl ?_
    refine g_iinc (v := (s.1 + (1 : Int32))) (lv2 := [(2, .int (s.1 + (1 : Int32))), (1, .int s.2), (0, .int p0)]) C dL_deep_119 2 rfl (ii (by decide)) (by decide) rfl ?_
    refine g_goto (tgt := 4) C dL_deep_122 (by decide) ?_
    refine g_sub (lv2 := [(0, .int p0), (1, .int s.2), (2, .int (s.1 + (1 : Int32)))]) [2, 1, 0] rfl ?_
    exact hK4 (s.2, (s.1 + (1 : Int32))) hf
  have h117 : ∀ (K4 : (Int32 × Int32) → Option (Int32)), (∀ s : Int32 × Int32, K4 s = some o → G E X 7 [] 0 0 [(0, .int p0), (1, .int s.1), (2, .int s.2)] [] 4) → ∀ s : Int32 × Int32 × Int32, b_L_deep_117 N p0 K4 s = some o → G E X 7 [] 0 0 [(0, .int p0), (2, .int s.1)] [.int s.2.2, .int s.2.1] 117 := by
    intro K4 hK4 s hf
    unfold b_L_deep_117 at hf
    refine g_iadd C dL_deep_117 ?_
    exact h118 K4 hK4 (s.1, (s.2.1 + s.2.2)) hf
  have h91 : ∀ (K4 : (Int32 × Int32) → Option (Int32)), (∀ s : Int32 × Int32, K4 s = some o → G E X 7 [] 0 0 [(0, .int p0), (1, .int s.1), (2, .int s.2)] [] 4) → ∀ (K17 : (Int32 × Int32 × Int32 × Int32) → Option (Int32)), (∀ s : Int32 × Int32 × Int32 × Int32, K17 s = some o → G E X 7 [] 0 0 [(0, .int p0), (1, .int s.1), (2, .int s.2.1), (3, .int s.2.2.1), (4, .int s.2.2.2)] [] 17) → ∀ s : Int32 × Int32 × Int32 × Int32, b_L_deep_91 N p0 K4 K17 s = some o → G E X 7 [] 0 0 [(0, .int p0), (1, .int s.1), (2, .int s.2.1), (4, .int s.2.2.1)] [.int s.2.2.2] 91 := by
    intro K4 hK4 K17 hK17 s hf
    unfold b_L_deep_91 at hf
    refine g_istore_n (lv2 := [(3, .int s.2.2.2), (0, .int p0), (1, .int s.1), (2, .int s.2.1), (4, .int s.2.2.1)]) C dL_deep_91 rfl (by decide) rfl ?_
    refine g_iinc (v := (s.2.2.1 + (1 : Int32))) (lv2 := [(4, .int (s.2.2.1 + (1 : Int32))), (3, .int s.2.2.2), (0, .int p0), (1, .int s.1), (2, .int s.2.1)]) C dL_deep_92 4 rfl (ii (by decide)) (by decide) rfl ?_
    refine g_goto (tgt := 17) C dL_deep_95 (by decide) ?_
    refine g_sub (lv2 := [(0, .int p0), (1, .int s.1), (2, .int s.2.1), (3, .int s.2.2.2), (4, .int (s.2.2.1 + (1 : Int32)))]) [2, 3, 4, 1, 0] rfl ?_
    exact hK17 (s.1, s.2.1, s.2.2.2, (s.2.2.1 + (1 : Int32))) hf
  have h90 : ∀ (K4 : (Int32 × Int32) → Option (Int32)), (∀ s : Int32 × Int32, K4 s = some o → G E X 7 [] 0 0 [(0, .int p0), (1, .int s.1), (2, .int s.2)] [] 4) → ∀ (K17 : (Int32 × Int32 × Int32 × Int32) → Option (Int32)), (∀ s : Int32 × Int32 × Int32 × Int32, K17 s = some o → G E X 7 [] 0 0 [(0, .int p0), (1, .int s.1), (2, .int s.2.1), (3, .int s.2.2.1), (4, .int s.2.2.2)] [] 17) → ∀ s : Int32 × Int32 × Int32 × Int32 × Int32, b_L_deep_90 N p0 K4 K17 s = some o → G E X 7 [] 0 0 [(0, .int p0), (1, .int s.1), (2, .int s.2.1), (4, .int s.2.2.1)] [.int s.2.2.2.2, .int s.2.2.2.1] 90 := by
    intro K4 hK4 K17 hK17 s hf
    unfold b_L_deep_90 at hf
    refine g_iadd C dL_deep_90 ?_
    exact h91 K4 hK4 K17 hK17 (s.1, s.2.1, s.2.2.1, (s.2.2.2.1 + s.2.2.2.2)) hf
  have h64 : ∀ (K4 : (Int32 × Int32) → Option (Int32)), (∀ s : Int32 × Int32, K4 s = some o → G E X 7 [] 0 0 [(0, .int p0), (1, .int s.1), (2, .int s.2)] [] 4) → ∀ (K17 : (Int32 × Int32 × Int32 × Int32) → Option (Int32)), (∀ s : Int32 × Int32 × Int32 × Int32, K17 s = some o → G E X 7 [] 0 0 [(0, .int p0), (1, .int s.1), (2, .int s.2.1), (3, .int s.2.2.1), (4, .int s.2.2.2)] [] 17) → ∀ s : Int32 × Int32 × Int32 × Int32 × Int32 × Int32, b_L_deep_64 N p0 K4 K17 s = some o → G E X 7 [] 0 0 [(0, .int p0), (1, .int s.1), (2, .int s.2.1), (3, .int s.2.2.1), (4, .int s.2.2.2.1)] [.int s.2.2.2.2.2, .int s.2.2.2.2.1] 64 := by
    intro K4 hK4 K17 hK17 s hf
    unfold b_L_deep_64 at hf
    refine g_iadd C dL_deep_64 ?_
    refine g_istore (lv2 := [(6, .int (s.2.2.2.2.1 + s.2.2.2.2.2)), (0, .int p0), (1, .int s.1), (2, .int s.2.1), (3, .int s.2.2.1), (4, .int s.2.2.2.1)]) C dL_deep_65 (by decide) rfl ?_
    refine g_iload C dL_deep_67 5 rfl ?_
    refine g_if_ne (tgt := 77) C dL_deep_69 (by decide) (fun c1 => ?_) (fun c1 => ?_)
    · have hf := (f_if hf).2 c1
      refine g_iconst (v := (1 : Int32)) C dL_deep_77 (by decide) ?_
      refine g_iload_n C dL_deep_78 rfl 4 rfl ?_
      refine g_iload C dL_deep_79 0 rfl ?_
      refine g_icmp_le (tgt := 88) C dL_deep_81 (by decide) (fun c2 => ?_) (fun c2 => ?_)
      · have hf := (f_if hf).1 c2
        refine g_iload C dL_deep_88 0 rfl ?_
        refine g_sub (lv2 := [(0, .int p0), (1, .int s.1), (2, .int s.2.1), (4, .int s.2.2.2.1)]) [1, 2, 3, 5] rfl ?_
        exact h90 K4 hK4 K17 hK17 (s.1, s.2.1, s.2.2.2.1, (1 : Int32), (s.2.2.2.2.1 + s.2.2.2.2.2)) hf
      · have hf := (f_if hf).2 c2
        refine g_iload_n C dL_deep_84 rfl 4 rfl ?_
        refine g_goto (tgt := 90) C dL_deep_85 (by decide) ?_
        refine g_sub (lv2 := [(0, .int p0), (1, .int s.1), (2, .int s.2.1), (4, .int s.2.2.2.1)]) [1, 2, 3, 5] rfl ?_
        exact h90 K4 hK4 K17 hK17 (s.1, s.2.1, s.2.2.2.1, (1 : Int32), s.2.2.1) hf
    · have hf := (f_if hf).1 c1
      refine g_iload C dL_deep_72 0 rfl ?_
      refine g_goto (tgt := 91) C dL_deep_74 (by decide) ?_
      refine g_sub (lv2 := [(0, .int p0), (1, .int s.1), (2, .int s.2.1), (4, .int s.2.2.2.1)]) [1, 2, 3, 5] rfl ?_
      exact h91 K4 hK4 K17 hK17 (s.1, s.2.1, s.2.2.2.1, (s.2.2.2.2.1 + s.2.2.2.2.2)) hf
  have h50 : ∀ (K4 : (Int32 × Int32) → Option (Int32)), (∀ s : Int32 × Int32, K4 s = some o → G E X 7 [] 0 0 [(0, .int p0), (1, .int s.1), (2, .int s.2)] [] 4) → ∀ (K17 : (Int32 × Int32 × Int32 × Int32) → Option (Int32)), (∀ s : Int32 × Int32 × Int32 × Int32, K17 s = some o → G E X 7 [] 0 0 [(0, .int p0), (1, .int s.1), (2, .int s.2.1), (3, .int s.2.2.1), (4, .int s.2.2.2)] [] 17) → ∀ s : Int32 × Int32 × Int32 × Int32 × Int32 × Int32 × Int32, b_L_deep_50 N p0 K4 K17 s = some o → G E X 7 [] 0 0 [(0, .int p0), (1, .int s.1), (2, .int s.2.1), (3, .int s.2.2.1), (4, .int s.2.2.2.1), (5, .int s.2.2.2.2.1)] [.int s.2.2.2.2.2.2, .int s.2.2.2.2.2.1] 50 := by
    intro K4 hK4 K17 hK17 s hf
    unfold b_L_deep_50 at hf
    refine g_iadd C dL_deep_50 ?_
    refine g_iload C dL_deep_51 5 rfl ?_
    obtain ⟨o3, hq4, hf⟩ := bind_s hf
    refine g_callS (As := [.int s.2.2.2.2.1]) (rest := [.int (s.2.2.2.2.2.1 + s.2.2.2.2.2.2)]) C k_L_isTwo (fun l => c_L_isTwo (E := E) hq4 l) mt_563 [] rfl (by decide) rfl (Nat.le_of_ble_eq_true rfl) ⟨Nat.le_of_ble_eq_true rfl, Nat.le_of_ble_eq_true rfl, Nat.le_of_ble_eq_true rfl, Nat.le_of_ble_eq_true rfl⟩ dL_deep_53 ?_
    rintro _ _ ⟨rfl, rfl⟩
    show G E X 7 [] 0 0 [(0, .int p0), (1, .int s.1), (2, .int s.2.1), (3, .int s.2.2.1), (4, .int s.2.2.2.1), (5, .int s.2.2.2.2.1)] [.int o3, .int (s.2.2.2.2.2.1 + s.2.2.2.2.2.2)] 56
    refine g_if_eq (tgt := 63) C dL_deep_56 (by decide) (fun c5 => ?_) (fun c5 => ?_)
    · have hf := (f_if hf).1 c5
      refine g_iconst (v := (0 : Int32)) C dL_deep_63 (by decide) ?_
      refine g_sub (lv2 := [(0, .int p0), (1, .int s.1), (2, .int s.2.1), (3, .int s.2.2.1), (4, .int s.2.2.2.1)]) [0, 1, 2, 3, 4] rfl ?_
      exact h64 K4 hK4 K17 hK17 (s.1, s.2.1, s.2.2.1, s.2.2.2.1, (s.2.2.2.2.2.1 + s.2.2.2.2.2.2), (0 : Int32)) hf
    · have hf := (f_if hf).2 c5
      refine g_iconst (v := (1 : Int32)) C dL_deep_59 (by decide) ?_
      refine g_goto (tgt := 64) C dL_deep_60 (by decide) ?_
      refine g_sub (lv2 := [(0, .int p0), (1, .int s.1), (2, .int s.2.1), (3, .int s.2.2.1), (4, .int s.2.2.2.1)]) [0, 1, 2, 3, 4] rfl ?_
      exact h64 K4 hK4 K17 hK17 (s.1, s.2.1, s.2.2.1, s.2.2.2.1, (s.2.2.2.2.2.1 + s.2.2.2.2.2.2), (1 : Int32)) hf
  have h17 : ∀ (K4 : (Int32 × Int32) → Option (Int32)), (∀ s : Int32 × Int32, K4 s = some o → G E X 7 [] 0 0 [(0, .int p0), (1, .int s.1), (2, .int s.2)] [] 4) → ∀ (n : Nat) (s : Int32 × Int32 × Int32 × Int32), lp (b_L_deep_17 N p0 K4) n s = some o → G E X 7 [] 0 0 [(0, .int p0), (1, .int s.1), (2, .int s.2.1), (3, .int s.2.2.1), (4, .int s.2.2.2)] [] 17 := by
    intro K4 hK4 
    refine lp_ind ?_
    intro K17 hK17 s hf
    unfold b_L_deep_17 at hf
    refine g_iload C dL_deep_17 4 rfl ?_
    refine g_iload_n C dL_deep_19 rfl 0 rfl ?_
    refine g_iload_n C dL_deep_20 rfl 2 rfl ?_
    obtain ⟨o6, hq7, hf⟩ := bind_s hf
    refine g_callS (As := [.int p0, .int s.2.1]) (rest := [.int s.2.2.2]) C k_L_partsOf (fun l => c_L_partsOf (E := E) hq7 l) mt_554 [] rfl (by decide) rfl (Nat.le_of_ble_eq_true rfl) ⟨Nat.le_of_ble_eq_true rfl, Nat.le_of_ble_eq_true rfl, Nat.le_of_ble_eq_true rfl, Nat.le_of_ble_eq_true rfl⟩ dL_deep_21 ?_
    rintro _ _ ⟨rfl, rfl⟩
    show G E X 7 [] 0 0 [(0, .int p0), (1, .int s.1), (2, .int s.2.1), (3, .int s.2.2.1), (4, .int s.2.2.2)] [.int o6, .int s.2.2.2] 24
    refine g_icmp_ge (tgt := 98) C dL_deep_24 (by decide) (fun c8 => ?_) (fun c8 => ?_)
    · have hf := (f_if hf).1 c8
      refine g_iload_n C dL_deep_98 rfl 2 rfl ?_
      refine g_if_ne (tgt := 106) C dL_deep_99 (by decide) (fun c9 => ?_) (fun c9 => ?_)
      · have hf := (f_if hf).2 c9
        refine g_iconst (v := (1 : Int32)) C dL_deep_106 (by decide) ?_
        refine g_iload_n C dL_deep_107 rfl 1 rfl ?_
        refine g_iload_n C dL_deep_108 rfl 3 rfl ?_
        refine g_icmp_le (tgt := 116) C dL_deep_109 (by decide) (fun c10 => ?_) (fun c10 => ?_)
        · have hf := (f_if hf).1 c10
          refine g_iload_n C dL_deep_116 rfl 3 rfl ?_
          refine g_sub (lv2 := [(0, .int p0), (2, .int s.2.1)]) [0, 2] rfl ?_
          exact h117 K4 hK4 (s.2.1, (1 : Int32), s.2.2.1) hf
        · have hf := (f_if hf).2 c10
          refine g_iload_n C dL_deep_112 rfl 1 rfl ?_
          refine g_goto (tgt := 117) C dL_deep_113 (by decide) ?_
          refine g_sub (lv2 := [(0, .int p0), (2, .int s.2.1)]) [0, 2] rfl ?_
          exact h117 K4 hK4 (s.2.1, (1 : Int32), s.1) hf
      · have hf := (f_if hf).1 c9
        refine g_iload_n C dL_deep_102 rfl 3 rfl ?_
        refine g_goto (tgt := 118) C dL_deep_103 (by decide) ?_
        refine g_sub (lv2 := [(0, .int p0), (2, .int s.2.1)]) [0, 2] rfl ?_
        exact h118 K4 hK4 (s.2.1, s.2.2.1) hf
    · have hf := (f_if hf).2 c8
      refine g_iload_n C dL_deep_27 rfl 0 rfl ?_
      refine g_iload_n C dL_deep_28 rfl 2 rfl ?_
      refine g_iload C dL_deep_29 4 rfl ?_
      obtain ⟨o11, hq12, hf⟩ := bind_s hf
      refine g_callS (As := [.int p0, .int s.2.1, .int s.2.2.2]) (rest := []) C k_L_part (fun l => c_L_part (E := E) hq12 l) mt_557 [] rfl (by decide) rfl (Nat.le_of_ble_eq_true rfl) ⟨Nat.le_of_ble_eq_true rfl, Nat.le_of_ble_eq_true rfl, Nat.le_of_ble_eq_true rfl, Nat.le_of_ble_eq_true rfl⟩ dL_deep_31 ?_
      rintro _ _ ⟨rfl, rfl⟩
      show G E X 7 [] 0 0 [(0, .int p0), (1, .int s.1), (2, .int s.2.1), (3, .int s.2.2.1), (4, .int s.2.2.2)] [.int o11] 34
      refine g_istore (lv2 := [(5, .int o11), (0, .int p0), (1, .int s.1), (2, .int s.2.1), (3, .int s.2.2.1), (4, .int s.2.2.2)]) C dL_deep_34 (by decide) rfl ?_
      refine g_iconst (v := (1 : Int32)) C dL_deep_36 (by decide) ?_
      refine g_iload C dL_deep_37 0 rfl ?_
      obtain ⟨o13, hq14, hf⟩ := bind_s hf
      refine g_callS (As := [.int o11]) (rest := [.int (1 : Int32)]) C k_L_isNot (fun l => c_L_isNot (E := E) hq14 l) mt_560 [] rfl (by decide) rfl (Nat.le_of_ble_eq_true rfl) ⟨Nat.le_of_ble_eq_true rfl, Nat.le_of_ble_eq_true rfl, Nat.le_of_ble_eq_true rfl, Nat.le_of_ble_eq_true rfl⟩ dL_deep_39 ?_
      rintro _ _ ⟨rfl, rfl⟩
      show G E X 7 [] 0 0 [(5, .int o11), (0, .int p0), (1, .int s.1), (2, .int s.2.1), (3, .int s.2.2.1), (4, .int s.2.2.2)] [.int o13, .int (1 : Int32)] 42
      refine g_if_eq (tgt := 49) C dL_deep_42 (by decide) (fun c15 => ?_) (fun c15 => ?_)
      · have hf := (f_if hf).1 c15
        refine g_iconst (v := (0 : Int32)) C dL_deep_49 (by decide) ?_
        refine g_sub (lv2 := [(0, .int p0), (1, .int s.1), (2, .int s.2.1), (3, .int s.2.2.1), (4, .int s.2.2.2), (5, .int o11)]) [1, 2, 3, 4, 5, 0] rfl ?_
        exact h50 K4 hK4 K17 hK17 (s.1, s.2.1, s.2.2.1, s.2.2.2, o11, (1 : Int32), (0 : Int32)) hf
      · have hf := (f_if hf).2 c15
        refine g_iconst (v := (1 : Int32)) C dL_deep_45 (by decide) ?_
        refine g_goto (tgt := 50) C dL_deep_46 (by decide) ?_
        refine g_sub (lv2 := [(0, .int p0), (1, .int s.1), (2, .int s.2.1), (3, .int s.2.2.1), (4, .int s.2.2.2), (5, .int o11)]) [1, 2, 3, 4, 5, 0] rfl ?_
        exact h50 K4 hK4 K17 hK17 (s.1, s.2.1, s.2.2.1, s.2.2.2, o11, (1 : Int32), (1 : Int32)) hf
  have h4 : ∀ (n : Nat) (s : Int32 × Int32), lp (b_L_deep_4 N p0) n s = some o → G E X 7 [] 0 0 [(0, .int p0), (1, .int s.1), (2, .int s.2)] [] 4 := by
    refine lp_ind ?_
    intro K4 hK4 s hf
    unfold b_L_deep_4 at hf
    refine g_iload_n C dL_deep_4 rfl 2 rfl ?_
    refine g_iload_n C dL_deep_5 rfl 0 rfl ?_
    obtain ⟨o16, hq17, hf⟩ := bind_s hf
    refine g_callS (As := [.int p0]) (rest := [.int s.2]) C k_L_rows (fun l => c_L_rows (E := E) hq17 l) mt_533 [] rfl (by decide) rfl (Nat.le_of_ble_eq_true rfl) ⟨Nat.le_of_ble_eq_true rfl, Nat.le_of_ble_eq_true rfl, Nat.le_of_ble_eq_true rfl, Nat.le_of_ble_eq_true rfl⟩ dL_deep_6 ?_
    rintro _ _ ⟨rfl, rfl⟩
    show G E X 7 [] 0 0 [(0, .int p0), (1, .int s.1), (2, .int s.2)] [.int o16, .int s.2] 9
    refine g_icmp_ge (tgt := 125) C dL_deep_9 (by decide) (fun c18 => ?_) (fun c18 => ?_)
    · have hf := (f_if hf).1 c18
      refine g_iload_n C dL_deep_125 rfl 1 rfl ?_
      obtain rfl := Option.some.inj hf
      exact g_iret C K dL_deep_126 (Nat.le_of_ble_eq_true rfl) (Nat.le_of_ble_eq_true rfl) ⟨rfl, rfl⟩
    · have hf := (f_if hf).2 c18
      refine g_iconst (v := (0 : Int32)) C dL_deep_12 (by decide) ?_
      refine g_istore_n (lv2 := [(3, .int (0 : Int32)), (0, .int p0), (1, .int s.1), (2, .int s.2)]) C dL_deep_13 rfl (by decide) rfl ?_
      refine g_iconst (v := (0 : Int32)) C dL_deep_14 (by decide) ?_
      refine g_istore (lv2 := [(4, .int (0 : Int32)), (3, .int (0 : Int32)), (0, .int p0), (1, .int s.1), (2, .int s.2)]) C dL_deep_15 (by decide) rfl ?_
      refine g_sub (lv2 := [(0, .int p0), (1, .int s.1), (2, .int s.2), (3, .int (0 : Int32)), (4, .int (0 : Int32))]) [2, 3, 4, 1, 0] rfl ?_
      exact h17 K4 hK4 N (s.1, s.2, (0 : Int32), (0 : Int32)) hf
  unfold f_L_deep at hf
  refine g_iconst (v := (0 : Int32)) C dL_deep_0 (by decide) ?_
  refine g_istore_n (lv2 := [(1, .int (0 : Int32)), (0, .int p0)]) C dL_deep_1 rfl (by decide) rfl ?_
  refine g_iconst (v := (0 : Int32)) C dL_deep_2 (by decide) ?_
  refine g_istore_n (lv2 := [(2, .int (0 : Int32)), (1, .int (0 : Int32)), (0, .int p0)]) C dL_deep_3 rfl (by decide) rfl ?_
  refine g_sub (lv2 := [(0, .int p0), (1, .int (0 : Int32)), (2, .int (0 : Int32))]) [2, 1, 0] rfl ?_
  exact h4 N ((0 : Int32), (0 : Int32)) hf
def b_L_letters_98 (N : Nat) (p0 : Int32) (K4 : (Int32 × Int32) → Option (Int32)) (K14 : (Int32 × Int32 × Int32) → Option (Int32)) (K34 : (Int32 × Int32 × Int32 × Int32 × Int32) → Option (Int32)) (s : Int32 × Int32 × Int32 × Int32 × Int32 × Int32) : Option (Int32) := K34 ((s.2.2.2.2.1 ||| s.2.2.2.2.2), s.1, s.2.1, s.2.2.1, (s.2.2.2.1 + (1 : Int32)))
def b_L_letters_67 (N : Nat) (p0 : Int32) (K4 : (Int32 × Int32) → Option (Int32)) (K14 : (Int32 × Int32 × Int32) → Option (Int32)) (K34 : (Int32 × Int32 × Int32 × Int32 × Int32) → Option (Int32)) (s : Int32 × Int32 × Int32 × Int32 × Int32 × Int32) : Option (Int32) := ((f_L_letter s.2.2.2.2.2).bind fun o1 => (if o1 < (97 : Int32) then b_L_letters_98 N p0 K4 K14 K34 (s.2.1, s.2.2.1, s.2.2.2.1, s.2.2.2.2.1, s.1, ((16 : Int32) <<< ((o1 - (65 : Int32)) &&& 31))) else b_L_letters_98 N p0 K4 K14 K34 (s.2.1, s.2.2.1, s.2.2.2.1, s.2.2.2.2.1, s.1, ((1 : Int32) <<< ((o1 - (97 : Int32)) &&& 31)))))
def b_L_letters_49 (N : Nat) (p0 : Int32) (K4 : (Int32 × Int32) → Option (Int32)) (K14 : (Int32 × Int32 × Int32) → Option (Int32)) (K34 : (Int32 × Int32 × Int32 × Int32 × Int32) → Option (Int32)) (s : Int32 × Int32 × Int32 × Int32 × Int32 × Int32 × Int32) : Option (Int32) := (if s.2.2.2.2.2.2 ≤ s.2.2.2.2.2.1 then K14 (s.1, s.2.1, (s.2.2.1 + (1 : Int32))) else (if s.2.2.2.2.1 = 0 then b_L_letters_67 N p0 K4 K14 K34 (s.1, s.2.1, s.2.2.1, s.2.2.2.1, s.2.2.2.2.1, s.2.2.2.1) else b_L_letters_67 N p0 K4 K14 K34 (s.1, s.2.1, s.2.2.1, s.2.2.2.1, s.2.2.2.2.1, (s.2.2.2.1 >>> ((7 : Int32) &&& 31)))))
def b_L_letters_34 (N : Nat) (p0 : Int32) (K4 : (Int32 × Int32) → Option (Int32)) (K14 : (Int32 × Int32 × Int32) → Option (Int32)) (K34 : (Int32 × Int32 × Int32 × Int32 × Int32) → Option (Int32)) (s : Int32 × Int32 × Int32 × Int32 × Int32) : Option (Int32) := ((f_L_isTwo s.2.2.2.1).bind fun o6 => (if o6 = 0 then b_L_letters_49 N p0 K4 K14 K34 (s.1, s.2.1, s.2.2.1, s.2.2.2.1, s.2.2.2.2, s.2.2.2.2, (1 : Int32)) else b_L_letters_49 N p0 K4 K14 K34 (s.1, s.2.1, s.2.2.1, s.2.2.2.1, s.2.2.2.2, s.2.2.2.2, (2 : Int32))))
def b_L_letters_14 (N : Nat) (p0 : Int32) (K4 : (Int32 × Int32) → Option (Int32)) (K14 : (Int32 × Int32 × Int32) → Option (Int32)) (s : Int32 × Int32 × Int32) : Option (Int32) := ((f_L_partsOf p0 s.2.1).bind fun o9 => (if o9 ≤ s.2.2 then K4 (s.1, (s.2.1 + (1 : Int32))) else ((f_L_part p0 s.2.1 s.2.2).bind fun o12 => lp (b_L_letters_34 N p0 K4 K14) N (s.1, s.2.1, s.2.2, o12, (0 : Int32)))))
def b_L_letters_4 (N : Nat) (p0 : Int32) (K4 : (Int32 × Int32) → Option (Int32)) (s : Int32 × Int32) : Option (Int32) := ((f_L_rows p0).bind fun o14 => (if o14 ≤ s.2 then some s.1 else lp (b_L_letters_14 N p0 K4) N (s.1, s.2, (0 : Int32))))
def f_L_letters (N : Nat) (p0 : Int32) : Option (Int32) := lp (b_L_letters_4 N p0) N ((0 : Int32), (0 : Int32))
abbrev rm_L_letters : Room := { frames := 2, cells := 0, slots := 0, locals := 42 }
set_option maxRecDepth 100000 in
theorem k_L_letters : CFs yL_letters cL_letters 7 (some .int) 1 := ⟨mt_595, mt_0, mt_596, ⟨by decide +kernel, by decide +kernel, by decide +kernel⟩⟩
set_option maxHeartbeats 4000000 in
set_option maxRecDepth 100000 in
theorem c_L_letters {E : Ev} {p0 : Int32} {N : Nat} {o : Int32} (hf : f_L_letters N p0 = some o) : ∀ l, MG l yL_letters cL_letters 7 (some .int) rm_L_letters E [.int p0] [] (fun v Y => v = some (.int o) ∧ Y = []) := by
  refine MG.mk (own := RL) (lv0 := [(0, .int p0)]) (by decide) rfl (Nat.le_of_ble_eq_true rfl) rfl (fun X C K I => ?_)
  have h98 : ∀ (K4 : (Int32 × Int32) → Option (Int32)), (∀ s : Int32 × Int32, K4 s = some o → G E X 7 [] 0 0 [(0, .int p0), (1, .int s.1), (2, .int s.2)] [] 4) → ∀ (K14 : (Int32 × Int32 × Int32) → Option (Int32)), (∀ s : Int32 × Int32 × Int32, K14 s = some o → G E X 7 [] 0 0 [(0, .int p0), (1, .int s.1), (2, .int s.2.1), (3, .int s.2.2)] [] 14) → ∀ (K34 : (Int32 × Int32 × Int32 × Int32 × Int32) → Option (Int32)), (∀ s : Int32 × Int32 × Int32 × Int32 × Int32, K34 s = some o → G E X 7 [] 0 0 [(0, .int p0), (1, .int s.1), (2, .int s.2.1), (3, .int s.2.2.1), (4, .int s.2.2.2.1), (5, .int s.2.2.2.2)] [] 34) → ∀ s : Int32 × Int32 × Int32 × Int32 × Int32 × Int32, b_L_letters_98 N p0 K4 K14 K34 s = some o → G E X 7 [] 0 0 [(0, .int p0), (2, .int s.1), (3, .int s.2.1), (4, .int s.2.2.1), (5, .int s.2.2.2.1)] [.int s.2.2.2.2.2, .int s.2.2.2.2.1] 98 := by
    intro K4 hK4 K14 hK14 K34 hK34 s hf
    unfold b_L_letters_98 at hf
    refine g_ior C dL_letters_98 ?_
    refine g_istore_n (lv2 := [(1, .int (s.2.2.2.2.1 ||| s.2.2.2.2.2)), (0, .int p0), (2, .int s.1), (3, .int s.2.1), (4, .int s.2.2.1), (5, .int s.2.2.2.1)]) C dL_letters_99 rfl (by decide) rfl ?_
    refine g_iinc (v := (s.2.2.2.1 + (1 : Int32))) (lv2 := [(5, .int (s.2.2.2.1 + (1 : Int32))), (1, .int (s.2.2.2.2.1 ||| s.2.2.2.2.2)), (0, .int p0), (2, .int s.1), (3, .int s.2.1), (4, .int s.2.2.1)]) C dL_letters_100 5 rfl (ii (by decide)) (by decide) rfl ?_
    refine g_goto (tgt := 34) C dL_letters_103 (by decide) ?_
    refine g_sub (lv2 := [(0, .int p0), (1, .int (s.2.2.2.2.1 ||| s.2.2.2.2.2)), (2, .int s.1), (3, .int s.2.1), (4, .int s.2.2.1), (5, .int (s.2.2.2.1 + (1 : Int32)))]) [2, 1, 3, 4, 5, 0] rfl ?_
    exact hK34 ((s.2.2.2.2.1 ||| s.2.2.2.2.2), s.1, s.2.1, s.2.2.1, (s.2.2.2.1 + (1 : Int32))) hf
  have h67 : ∀ (K4 : (Int32 × Int32) → Option (Int32)), (∀ s : Int32 × Int32, K4 s = some o → G E X 7 [] 0 0 [(0, .int p0), (1, .int s.1), (2, .int s.2)] [] 4) → ∀ (K14 : (Int32 × Int32 × Int32) → Option (Int32)), (∀ s : Int32 × Int32 × Int32, K14 s = some o → G E X 7 [] 0 0 [(0, .int p0), (1, .int s.1), (2, .int s.2.1), (3, .int s.2.2)] [] 14) → ∀ (K34 : (Int32 × Int32 × Int32 × Int32 × Int32) → Option (Int32)), (∀ s : Int32 × Int32 × Int32 × Int32 × Int32, K34 s = some o → G E X 7 [] 0 0 [(0, .int p0), (1, .int s.1), (2, .int s.2.1), (3, .int s.2.2.1), (4, .int s.2.2.2.1), (5, .int s.2.2.2.2)] [] 34) → ∀ s : Int32 × Int32 × Int32 × Int32 × Int32 × Int32, b_L_letters_67 N p0 K4 K14 K34 s = some o → G E X 7 [] 0 0 [(0, .int p0), (1, .int s.1), (2, .int s.2.1), (3, .int s.2.2.1), (4, .int s.2.2.2.1), (5, .int s.2.2.2.2.1)] [.int s.2.2.2.2.2] 67 := by
    intro K4 hK4 K14 hK14 K34 hK34 s hf
    unfold b_L_letters_67 at hf
    obtain ⟨o1, hq2, hf⟩ := bind_s hf
    refine g_callS (As := [.int s.2.2.2.2.2]) (rest := []) C k_L_letter (fun l => c_L_letter (E := E) hq2 l) mt_566 [] rfl (by decide) rfl (Nat.le_of_ble_eq_true rfl) ⟨Nat.le_of_ble_eq_true rfl, Nat.le_of_ble_eq_true rfl, Nat.le_of_ble_eq_true rfl, Nat.le_of_ble_eq_true rfl⟩ dL_letters_67 ?_
    rintro _ _ ⟨rfl, rfl⟩
    show G E X 7 [] 0 0 [(0, .int p0), (1, .int s.1), (2, .int s.2.1), (3, .int s.2.2.1), (4, .int s.2.2.2.1), (5, .int s.2.2.2.2.1)] [.int o1] 70
    refine g_istore (lv2 := [(6, .int o1), (0, .int p0), (1, .int s.1), (2, .int s.2.1), (3, .int s.2.2.1), (4, .int s.2.2.2.1), (5, .int s.2.2.2.2.1)]) C dL_letters_70 (by decide) rfl ?_
    refine g_iload_n C dL_letters_72 rfl 2 rfl ?_
    refine g_iload C dL_letters_73 0 rfl ?_
    refine g_bipush (v := (97 : Int32)) C dL_letters_75 (by decide) ?_
    refine g_icmp_lt (tgt := 90) C dL_letters_77 (by decide) (fun c3 => ?_) (fun c3 => ?_)
    · have hf := (f_if hf).1 c3
      refine g_bipush (v := (16 : Int32)) C dL_letters_90 (by decide) ?_
      refine g_iload C dL_letters_92 0 rfl ?_
      refine g_bipush (v := (65 : Int32)) C dL_letters_94 (by decide) ?_
      refine g_isub C dL_letters_96 ?_
      refine g_ishl C dL_letters_97 ?_
      refine g_sub (lv2 := [(0, .int p0), (2, .int s.2.1), (3, .int s.2.2.1), (4, .int s.2.2.2.1), (5, .int s.2.2.2.2.1)]) [1, 3, 4, 5, 6] rfl ?_
      exact h98 K4 hK4 K14 hK14 K34 hK34 (s.2.1, s.2.2.1, s.2.2.2.1, s.2.2.2.2.1, s.1, ((16 : Int32) <<< ((o1 - (65 : Int32)) &&& 31))) hf
    · have hf := (f_if hf).2 c3
      refine g_iconst (v := (1 : Int32)) C dL_letters_80 (by decide) ?_
      refine g_iload C dL_letters_81 0 rfl ?_
      refine g_bipush (v := (97 : Int32)) C dL_letters_83 (by decide) ?_
      refine g_isub C dL_letters_85 ?_
      refine g_ishl C dL_letters_86 ?_
      refine g_goto (tgt := 98) C dL_letters_87 (by decide) ?_
      refine g_sub (lv2 := [(0, .int p0), (2, .int s.2.1), (3, .int s.2.2.1), (4, .int s.2.2.2.1), (5, .int s.2.2.2.2.1)]) [1, 3, 4, 5, 6] rfl ?_
      exact h98 K4 hK4 K14 hK14 K34 hK34 (s.2.1, s.2.2.1, s.2.2.2.1, s.2.2.2.2.1, s.1, ((1 : Int32) <<< ((o1 - (97 : Int32)) &&& 31))) hf
  have h49 : ∀ (K4 : (Int32 × Int32) → Option (Int32)), (∀ s : Int32 × Int32, K4 s = some o → G E X 7 [] 0 0 [(0, .int p0), (1, .int s.1), (2, .int s.2)] [] 4) → ∀ (K14 : (Int32 × Int32 × Int32) → Option (Int32)), (∀ s : Int32 × Int32 × Int32, K14 s = some o → G E X 7 [] 0 0 [(0, .int p0), (1, .int s.1), (2, .int s.2.1), (3, .int s.2.2)] [] 14) → ∀ (K34 : (Int32 × Int32 × Int32 × Int32 × Int32) → Option (Int32)), (∀ s : Int32 × Int32 × Int32 × Int32 × Int32, K34 s = some o → G E X 7 [] 0 0 [(0, .int p0), (1, .int s.1), (2, .int s.2.1), (3, .int s.2.2.1), (4, .int s.2.2.2.1), (5, .int s.2.2.2.2)] [] 34) → ∀ s : Int32 × Int32 × Int32 × Int32 × Int32 × Int32 × Int32, b_L_letters_49 N p0 K4 K14 K34 s = some o → G E X 7 [] 0 0 [(0, .int p0), (1, .int s.1), (2, .int s.2.1), (3, .int s.2.2.1), (4, .int s.2.2.2.1), (5, .int s.2.2.2.2.1)] [.int s.2.2.2.2.2.2, .int s.2.2.2.2.2.1] 49 := by
    intro K4 hK4 K14 hK14 K34 hK34 s hf
    unfold b_L_letters_49 at hf
    refine g_icmp_ge (tgt := 106) C dL_letters_49 (by decide) (fun c4 => ?_) (fun c4 => ?_)
    · have hf := (f_if hf).1 c4
      refine g_iinc (v := (s.2.2.1 + (1 : Int32))) (lv2 := [(3, .int (s.2.2.1 + (1 : Int32))), (0, .int p0), (1, .int s.1), (2, .int s.2.1), (4, .int s.2.2.2.1), (5, .int s.2.2.2.2.1)]) C dL_letters_106 3 rfl (ii (by decide)) (by decide) rfl ?_
      refine g_goto (tgt := 14) C dL_letters_109 (by decide) ?_
      refine g_sub (lv2 := [(0, .int p0), (1, .int s.1), (2, .int s.2.1), (3, .int (s.2.2.1 + (1 : Int32)))]) [1, 2, 3, 0] rfl ?_
      exact hK14 (s.1, s.2.1, (s.2.2.1 + (1 : Int32))) hf
    · have hf := (f_if hf).2 c4
      refine g_iload C dL_letters_52 5 rfl ?_
      refine g_if_ne (tgt := 62) C dL_letters_54 (by decide) (fun c5 => ?_) (fun c5 => ?_)
      · have hf := (f_if hf).2 c5
        refine g_iload C dL_letters_62 4 rfl ?_
        refine g_bipush (v := (7 : Int32)) C dL_letters_64 (by decide) ?_
        refine g_ishr C dL_letters_66 ?_
        exact h67 K4 hK4 K14 hK14 K34 hK34 (s.1, s.2.1, s.2.2.1, s.2.2.2.1, s.2.2.2.2.1, (s.2.2.2.1 >>> ((7 : Int32) &&& 31))) hf
      · have hf := (f_if hf).1 c5
        refine g_iload C dL_letters_57 4 rfl ?_
        refine g_goto (tgt := 67) C dL_letters_59 (by decide) ?_
        exact h67 K4 hK4 K14 hK14 K34 hK34 (s.1, s.2.1, s.2.2.1, s.2.2.2.1, s.2.2.2.2.1, s.2.2.2.1) hf
  have h34 : ∀ (K4 : (Int32 × Int32) → Option (Int32)), (∀ s : Int32 × Int32, K4 s = some o → G E X 7 [] 0 0 [(0, .int p0), (1, .int s.1), (2, .int s.2)] [] 4) → ∀ (K14 : (Int32 × Int32 × Int32) → Option (Int32)), (∀ s : Int32 × Int32 × Int32, K14 s = some o → G E X 7 [] 0 0 [(0, .int p0), (1, .int s.1), (2, .int s.2.1), (3, .int s.2.2)] [] 14) → ∀ (n : Nat) (s : Int32 × Int32 × Int32 × Int32 × Int32), lp (b_L_letters_34 N p0 K4 K14) n s = some o → G E X 7 [] 0 0 [(0, .int p0), (1, .int s.1), (2, .int s.2.1), (3, .int s.2.2.1), (4, .int s.2.2.2.1), (5, .int s.2.2.2.2)] [] 34 := by
    intro K4 hK4 K14 hK14 
    refine lp_ind ?_
    intro K34 hK34 s hf
    unfold b_L_letters_34 at hf
    refine g_iload C dL_letters_34 5 rfl ?_
    refine g_iload C dL_letters_36 4 rfl ?_
    obtain ⟨o6, hq7, hf⟩ := bind_s hf
    refine g_callS (As := [.int s.2.2.2.1]) (rest := [.int s.2.2.2.2]) C k_L_isTwo (fun l => c_L_isTwo (E := E) hq7 l) mt_563 [] rfl (by decide) rfl (Nat.le_of_ble_eq_true rfl) ⟨Nat.le_of_ble_eq_true rfl, Nat.le_of_ble_eq_true rfl, Nat.le_of_ble_eq_true rfl, Nat.le_of_ble_eq_true rfl⟩ dL_letters_38 ?_
    rintro _ _ ⟨rfl, rfl⟩
    show G E X 7 [] 0 0 [(0, .int p0), (1, .int s.1), (2, .int s.2.1), (3, .int s.2.2.1), (4, .int s.2.2.2.1), (5, .int s.2.2.2.2)] [.int o6, .int s.2.2.2.2] 41
    refine g_if_eq (tgt := 48) C dL_letters_41 (by decide) (fun c8 => ?_) (fun c8 => ?_)
    · have hf := (f_if hf).1 c8
      refine g_iconst (v := (1 : Int32)) C dL_letters_48 (by decide) ?_
      exact h49 K4 hK4 K14 hK14 K34 hK34 (s.1, s.2.1, s.2.2.1, s.2.2.2.1, s.2.2.2.2, s.2.2.2.2, (1 : Int32)) hf
    · have hf := (f_if hf).2 c8
      refine g_iconst (v := (2 : Int32)) C dL_letters_44 (by decide) ?_
      refine g_goto (tgt := 49) C dL_letters_45 (by decide) ?_
      exact h49 K4 hK4 K14 hK14 K34 hK34 (s.1, s.2.1, s.2.2.1, s.2.2.2.1, s.2.2.2.2, s.2.2.2.2, (2 : Int32)) hf
  have h14 : ∀ (K4 : (Int32 × Int32) → Option (Int32)), (∀ s : Int32 × Int32, K4 s = some o → G E X 7 [] 0 0 [(0, .int p0), (1, .int s.1), (2, .int s.2)] [] 4) → ∀ (n : Nat) (s : Int32 × Int32 × Int32), lp (b_L_letters_14 N p0 K4) n s = some o → G E X 7 [] 0 0 [(0, .int p0), (1, .int s.1), (2, .int s.2.1), (3, .int s.2.2)] [] 14 := by
    intro K4 hK4 
    refine lp_ind ?_
    intro K14 hK14 s hf
    unfold b_L_letters_14 at hf
    refine g_iload_n C dL_letters_14 rfl 3 rfl ?_
    refine g_iload_n C dL_letters_15 rfl 0 rfl ?_
    refine g_iload_n C dL_letters_16 rfl 2 rfl ?_
    obtain ⟨o9, hq10, hf⟩ := bind_s hf
    refine g_callS (As := [.int p0, .int s.2.1]) (rest := [.int s.2.2]) C k_L_partsOf (fun l => c_L_partsOf (E := E) hq10 l) mt_554 [] rfl (by decide) rfl (Nat.le_of_ble_eq_true rfl) ⟨Nat.le_of_ble_eq_true rfl, Nat.le_of_ble_eq_true rfl, Nat.le_of_ble_eq_true rfl, Nat.le_of_ble_eq_true rfl⟩ dL_letters_17 ?_
    rintro _ _ ⟨rfl, rfl⟩
    show G E X 7 [] 0 0 [(0, .int p0), (1, .int s.1), (2, .int s.2.1), (3, .int s.2.2)] [.int o9, .int s.2.2] 20
    refine g_icmp_ge (tgt := 112) C dL_letters_20 (by decide) (fun c11 => ?_) (fun c11 => ?_)
    · have hf := (f_if hf).1 c11
      refine g_iinc (v := (s.2.1 + (1 : Int32))) (lv2 := [(2, .int (s.2.1 + (1 : Int32))), (0, .int p0), (1, .int s.1), (3, .int s.2.2)]) C dL_letters_112 2 rfl (ii (by decide)) (by decide) rfl ?_
      refine g_goto (tgt := 4) C dL_letters_115 (by decide) ?_
      refine g_sub (lv2 := [(0, .int p0), (1, .int s.1), (2, .int (s.2.1 + (1 : Int32)))]) [1, 2, 0] rfl ?_
      exact hK4 (s.1, (s.2.1 + (1 : Int32))) hf
    · have hf := (f_if hf).2 c11
      refine g_iload_n C dL_letters_23 rfl 0 rfl ?_
      refine g_iload_n C dL_letters_24 rfl 2 rfl ?_
      refine g_iload_n C dL_letters_25 rfl 3 rfl ?_
      obtain ⟨o12, hq13, hf⟩ := bind_s hf
      refine g_callS (As := [.int p0, .int s.2.1, .int s.2.2]) (rest := []) C k_L_part (fun l => c_L_part (E := E) hq13 l) mt_557 [] rfl (by decide) rfl (Nat.le_of_ble_eq_true rfl) ⟨Nat.le_of_ble_eq_true rfl, Nat.le_of_ble_eq_true rfl, Nat.le_of_ble_eq_true rfl, Nat.le_of_ble_eq_true rfl⟩ dL_letters_26 ?_
      rintro _ _ ⟨rfl, rfl⟩
      show G E X 7 [] 0 0 [(0, .int p0), (1, .int s.1), (2, .int s.2.1), (3, .int s.2.2)] [.int o12] 29
      refine g_istore (lv2 := [(4, .int o12), (0, .int p0), (1, .int s.1), (2, .int s.2.1), (3, .int s.2.2)]) C dL_letters_29 (by decide) rfl ?_
      refine g_iconst (v := (0 : Int32)) C dL_letters_31 (by decide) ?_
      refine g_istore (lv2 := [(5, .int (0 : Int32)), (4, .int o12), (0, .int p0), (1, .int s.1), (2, .int s.2.1), (3, .int s.2.2)]) C dL_letters_32 (by decide) rfl ?_
      refine g_sub (lv2 := [(0, .int p0), (1, .int s.1), (2, .int s.2.1), (3, .int s.2.2), (4, .int o12), (5, .int (0 : Int32))]) [2, 3, 4, 5, 1, 0] rfl ?_
      exact h34 K4 hK4 K14 hK14 N (s.1, s.2.1, s.2.2, o12, (0 : Int32)) hf
  have h4 : ∀ (n : Nat) (s : Int32 × Int32), lp (b_L_letters_4 N p0) n s = some o → G E X 7 [] 0 0 [(0, .int p0), (1, .int s.1), (2, .int s.2)] [] 4 := by
    refine lp_ind ?_
    intro K4 hK4 s hf
    unfold b_L_letters_4 at hf
    refine g_iload_n C dL_letters_4 rfl 2 rfl ?_
    refine g_iload_n C dL_letters_5 rfl 0 rfl ?_
    obtain ⟨o14, hq15, hf⟩ := bind_s hf
    refine g_callS (As := [.int p0]) (rest := [.int s.2]) C k_L_rows (fun l => c_L_rows (E := E) hq15 l) mt_533 [] rfl (by decide) rfl (Nat.le_of_ble_eq_true rfl) ⟨Nat.le_of_ble_eq_true rfl, Nat.le_of_ble_eq_true rfl, Nat.le_of_ble_eq_true rfl, Nat.le_of_ble_eq_true rfl⟩ dL_letters_6 ?_
    rintro _ _ ⟨rfl, rfl⟩
    show G E X 7 [] 0 0 [(0, .int p0), (1, .int s.1), (2, .int s.2)] [.int o14, .int s.2] 9
    refine g_icmp_ge (tgt := 118) C dL_letters_9 (by decide) (fun c16 => ?_) (fun c16 => ?_)
    · have hf := (f_if hf).1 c16
      refine g_iload_n C dL_letters_118 rfl 1 rfl ?_
      obtain rfl := Option.some.inj hf
      exact g_iret C K dL_letters_119 (Nat.le_of_ble_eq_true rfl) (Nat.le_of_ble_eq_true rfl) ⟨rfl, rfl⟩
    · have hf := (f_if hf).2 c16
      refine g_iconst (v := (0 : Int32)) C dL_letters_12 (by decide) ?_
      refine g_istore_n (lv2 := [(3, .int (0 : Int32)), (0, .int p0), (1, .int s.1), (2, .int s.2)]) C dL_letters_13 rfl (by decide) rfl ?_
      refine g_sub (lv2 := [(0, .int p0), (1, .int s.1), (2, .int s.2), (3, .int (0 : Int32))]) [1, 2, 3, 0] rfl ?_
      exact h14 K4 hK4 N (s.1, s.2, (0 : Int32)) hf
  unfold f_L_letters at hf
  refine g_iconst (v := (0 : Int32)) C dL_letters_0 (by decide) ?_
  refine g_istore_n (lv2 := [(1, .int (0 : Int32)), (0, .int p0)]) C dL_letters_1 rfl (by decide) rfl ?_
  refine g_iconst (v := (0 : Int32)) C dL_letters_2 (by decide) ?_
  refine g_istore_n (lv2 := [(2, .int (0 : Int32)), (1, .int (0 : Int32)), (0, .int p0)]) C dL_letters_3 rfl (by decide) rfl ?_
  refine g_sub (lv2 := [(0, .int p0), (1, .int (0 : Int32)), (2, .int (0 : Int32))]) [2, 1, 0] rfl ?_
  exact h4 N ((0 : Int32), (0 : Int32)) hf
