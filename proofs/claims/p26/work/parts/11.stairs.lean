def b_X4_settingCounted_21 (V : St) (p0 : Int32) (s : Int32) : Option (Int32) := some s
def b_X4_settingCounted_19 (V : St) (p0 : Int32) (s : Unit) : Option (Int32) := b_X4_settingCounted_21 V p0 (-2 : Int32)
def f_X4_settingCounted (V : St) (p0 : Int32) : Option (Int32) := (if p0 < 0 then b_X4_settingCounted_19 V p0 () else (if (7 : Int32) ≤ p0 then b_X4_settingCounted_19 V p0 () else (ix p0 7 (b_X4_settingCounted_21 V p0 (V.1 (Int32.toNatClampNeg p0))))))
abbrev rm_X4_settingCounted : Room := { frames := 0, cells := 0, slots := 0, locals := 0 }
set_option maxRecDepth 100000 in
theorem k_X4_settingCounted : CF yX4_settingCounted cX4_settingCounted 2 (some .int) 1 := ⟨mt_470, mp_20, mt_10, mt_471, ⟨rfl, by decide +kernel, by decide +kernel, by decide +kernel⟩⟩
set_option maxHeartbeats 4000000 in
set_option maxRecDepth 100000 in
theorem c_X4_settingCounted {E : Ev} {a : Nat → Nat} {V : St} {p0 : Int32} {o : Int32} (hf : f_X4_settingCounted V p0 = some o) : ∀ l, MG l yX4_settingCounted cX4_settingCounted 2 (some .int) rm_X4_settingCounted E [.ref (a 0), .int p0] [sc E a V] (fun v Y => v = some (.int o) ∧ Y = [sc E a V]) := by
  refine MG.mk (own := RX4) (lv0 := [(0, .ref (a 0)), (1, .int p0)]) (by decide) rfl (Nat.le_of_ble_eq_true rfl) rfl (fun X C K I => ?_)
  have h21 : ∀ s : Int32, b_X4_settingCounted_21 V p0 s = some o → G E X 2 [sc E a V] 0 0 [] [.int s] 21 := by
    intro s hf
    unfold b_X4_settingCounted_21 at hf
    obtain rfl := Option.some.inj hf
    exact g_iret C K dX4_settingCounted_21 (Nat.le_of_ble_eq_true rfl) (Nat.le_of_ble_eq_true rfl) ⟨rfl, rfl⟩
  have h19 : ∀ s : Unit, b_X4_settingCounted_19 V p0 s = some o → G E X 2 [sc E a V] 0 0 [] [] 19 := by
    intro s hf
    unfold b_X4_settingCounted_19 at hf
    refine g_bipush (v := (-2 : Int32)) C dX4_settingCounted_19 (by decide) ?_
    exact h21 (-2 : Int32) hf
  unfold f_X4_settingCounted at hf
  refine g_iload_n C dX4_settingCounted_0 rfl 1 rfl ?_
  refine g_if_lt (tgt := 19) C dX4_settingCounted_1 (by decide) (fun c1 => ?_) (fun c1 => ?_)
  · have hf := (f_if hf).1 c1
    refine g_sub (lv2 := []) [] rfl ?_
    exact h19 () hf
  · have hf := (f_if hf).2 c1
    refine g_iload_n C dX4_settingCounted_4 rfl 1 rfl ?_
    refine g_bipush (v := (7 : Int32)) C dX4_settingCounted_5 (by decide) ?_
    refine g_icmp_ge (tgt := 19) C dX4_settingCounted_7 (by decide) (fun c2 => ?_) (fun c2 => ?_)
    · have hf := (f_if hf).1 c2
      refine g_sub (lv2 := []) [] rfl ?_
      exact h19 () hf
    · have hf := (f_if hf).2 c2
      refine g_aload_n C dX4_settingCounted_10 rfl 0 rfl ?_
      refine g_get (Cl := RX4) (T := TX4) (N := 18) C mi_X4 0 rfl (List.mem_of_getElem? (i := 0) rfl) rfl 0 (by decide) mt_210 rfl rfl dX4_settingCounted_11 ?_
      refine g_iload_n C dX4_settingCounted_14 rfl 1 rfl ?_
      obtain ⟨i3, hf⟩ := ix_s hf
      refine g_iald C 0 rfl (List.mem_of_getElem? (i := 1) rfl) i3 dX4_settingCounted_15 ?_
      refine g_goto (tgt := 21) C dX4_settingCounted_16 (by decide) ?_
      refine g_sub (lv2 := []) [] rfl ?_
      exact h21 (V.1 (Int32.toNatClampNeg p0)) hf
def b_X4_totalWeight_33 (N : Nat) (V : St) (s : Int32) : Option (Int32) := some s
def b_X4_totalWeight_4 (N : Nat) (V : St) (K4 : (Int32 × Int32) → Option (Int32)) (s : Int32 × Int32) : Option (Int32) := (if V.2.2.2.2.2.2.2.1 ≤ s.2 then b_X4_totalWeight_33 N V s.1 else (if (20 : Int32) ≤ s.2 then b_X4_totalWeight_33 N V s.1 else (ix s.2 20 (K4 ((s.1 + (V.2.2.1 (Int32.toNatClampNeg s.2))), (s.2 + (1 : Int32)))))))
def f_X4_totalWeight (N : Nat) (V : St) : Option (Int32) := lp (b_X4_totalWeight_4 N V) N ((0 : Int32), (0 : Int32))
abbrev rm_X4_totalWeight : Room := { frames := 0, cells := 0, slots := 0, locals := 0 }
set_option maxRecDepth 100000 in
theorem k_X4_totalWeight : CF yX4_totalWeight cX4_totalWeight 3 (some .int) 0 := ⟨mt_400, mt_401, mt_10, mt_402, ⟨rfl, by decide +kernel, by decide +kernel, by decide +kernel⟩⟩
set_option maxHeartbeats 4000000 in
set_option maxRecDepth 100000 in
theorem c_X4_totalWeight {E : Ev} {a : Nat → Nat} {V : St} {N : Nat} {o : Int32} (hf : f_X4_totalWeight N V = some o) : ∀ l, MG l yX4_totalWeight cX4_totalWeight 3 (some .int) rm_X4_totalWeight E [.ref (a 0)] [sc E a V] (fun v Y => v = some (.int o) ∧ Y = [sc E a V]) := by
  refine MG.mk (own := RX4) (lv0 := [(0, .ref (a 0))]) (by decide) rfl (Nat.le_of_ble_eq_true rfl) rfl (fun X C K I => ?_)
  have h33 : ∀ s : Int32, b_X4_totalWeight_33 N V s = some o → G E X 3 [sc E a V] 0 0 [(1, .int s)] [] 33 := by
    intro s hf
    unfold b_X4_totalWeight_33 at hf
    refine g_iload_n C dX4_totalWeight_33 rfl 0 rfl ?_
    obtain rfl := Option.some.inj hf
    exact g_iret C K dX4_totalWeight_34 (Nat.le_of_ble_eq_true rfl) (Nat.le_of_ble_eq_true rfl) ⟨rfl, rfl⟩
  have h4 : ∀ (n : Nat) (s : Int32 × Int32), lp (b_X4_totalWeight_4 N V) n s = some o → G E X 3 [sc E a V] 0 0 [(0, .ref (a 0)), (1, .int s.1), (2, .int s.2)] [] 4 := by
    refine lp_ind ?_
    intro K4 hK4 s hf
    unfold b_X4_totalWeight_4 at hf
    refine g_iload_n C dX4_totalWeight_4 rfl 2 rfl ?_
    refine g_aload_n C dX4_totalWeight_5 rfl 0 rfl ?_
    refine g_get (Cl := RX4) (T := TX4) (N := 18) C mi_X4 0 rfl (List.mem_of_getElem? (i := 0) rfl) rfl 7 (by decide) mt_224 rfl rfl dX4_totalWeight_6 ?_
    refine g_icmp_ge (tgt := 33) C dX4_totalWeight_9 (by decide) (fun c1 => ?_) (fun c1 => ?_)
    · have hf := (f_if hf).1 c1
      refine g_sub (lv2 := [(1, .int s.1)]) [1] rfl ?_
      exact h33 s.1 hf
    · have hf := (f_if hf).2 c1
      refine g_iload_n C dX4_totalWeight_12 rfl 2 rfl ?_
      refine g_bipush (v := (20 : Int32)) C dX4_totalWeight_13 (by decide) ?_
      refine g_icmp_ge (tgt := 33) C dX4_totalWeight_15 (by decide) (fun c2 => ?_) (fun c2 => ?_)
      · have hf := (f_if hf).1 c2
        refine g_sub (lv2 := [(1, .int s.1)]) [1] rfl ?_
        exact h33 s.1 hf
      · have hf := (f_if hf).2 c2
        refine g_iload_n C dX4_totalWeight_18 rfl 1 rfl ?_
        refine g_aload_n C dX4_totalWeight_19 rfl 0 rfl ?_
        refine g_get (Cl := RX4) (T := TX4) (N := 18) C mi_X4 0 rfl (List.mem_of_getElem? (i := 0) rfl) rfl 2 (by decide) mt_214 rfl rfl dX4_totalWeight_20 ?_
        refine g_iload_n C dX4_totalWeight_23 rfl 2 rfl ?_
        obtain ⟨i3, hf⟩ := ix_s hf
        refine g_iald C 0 rfl (List.mem_of_getElem? (i := 3) rfl) i3 dX4_totalWeight_24 ?_
        refine g_iadd C dX4_totalWeight_25 ?_
        refine g_istore_n (lv2 := [(1, .int (s.1 + (V.2.2.1 (Int32.toNatClampNeg s.2)))), (0, .ref (a 0)), (2, .int s.2)]) C dX4_totalWeight_26 rfl (by decide) rfl ?_
        refine g_iinc (v := (s.2 + (1 : Int32))) (lv2 := [(2, .int (s.2 + (1 : Int32))), (1, .int (s.1 + (V.2.2.1 (Int32.toNatClampNeg s.2)))), (0, .ref (a 0))]) C dX4_totalWeight_27 2 rfl (ii (by decide)) (by decide) rfl ?_
        refine g_goto (tgt := 4) C dX4_totalWeight_30 (by decide) ?_
        refine g_sub (lv2 := [(0, .ref (a 0)), (1, .int (s.1 + (V.2.2.1 (Int32.toNatClampNeg s.2)))), (2, .int (s.2 + (1 : Int32)))]) [2, 1, 0] rfl ?_
        exact hK4 ((s.1 + (V.2.2.1 (Int32.toNatClampNeg s.2))), (s.2 + (1 : Int32))) hf
  unfold f_X4_totalWeight at hf
  refine g_iconst (v := (0 : Int32)) C dX4_totalWeight_0 (by decide) ?_
  refine g_istore_n (lv2 := [(1, .int (0 : Int32)), (0, .ref (a 0))]) C dX4_totalWeight_1 rfl (by decide) rfl ?_
  refine g_iconst (v := (0 : Int32)) C dX4_totalWeight_2 (by decide) ?_
  refine g_istore_n (lv2 := [(2, .int (0 : Int32)), (1, .int (0 : Int32)), (0, .ref (a 0))]) C dX4_totalWeight_3 rfl (by decide) rfl ?_
  refine g_sub (lv2 := [(0, .ref (a 0)), (1, .int (0 : Int32)), (2, .int (0 : Int32))]) [2, 1, 0] rfl ?_
  exact h4 N ((0 : Int32), (0 : Int32)) hf
def f_X4_number (N : Nat) (V : St) (p0 : Int32) : Option (Int32) := (if p0 = (0 : Int32) then some V.2.2.2.2.2.2.2.2.2.2.1 else (if p0 = (1 : Int32) then some V.2.2.2.2.2.2.2.1 else (if p0 = (2 : Int32) then ((f_X4_totalWeight N V).bind fun o4 => some o4) else (if p0 = (3 : Int32) then some V.2.2.2.2.2.2.2.2.2.2.2.1 else (if p0 = (4 : Int32) then some V.2.2.2.2.2.2.2.2.2.1 else (if p0 = (5 : Int32) then some V.2.2.2.2.2.2.2.2.2.2.2.2.1 else (if p0 = (6 : Int32) then some V.2.2.2.2.2.2.2.2.2.2.2.2.2.1 else (if p0 = (7 : Int32) then some V.2.2.2.2.2.2.2.2.2.2.2.2.2.2.1 else (if p0 = (8 : Int32) then some V.2.2.2.2.2.2.2.2.2.2.2.2.2.2.2.1 else (if p0 = (9 : Int32) then some V.2.2.2.2.2.2.2.2.2.2.2.2.2.2.2.2.1 else (if p0 = (10 : Int32) then some V.2.2.2.2.2.2.2.2.2.2.2.2.2.2.2.2.2 else ((f_X4_settingCounted V (p0 - (11 : Int32))).bind fun o14 => some o14))))))))))))
abbrev rm_X4_number : Room := { frames := 1, cells := 0, slots := 0, locals := 22 }
set_option maxRecDepth 100000 in
theorem k_X4_number : CF yX4_number cX4_number 2 (some .int) 1 := ⟨mt_465, mt_466, mt_10, mt_467, ⟨rfl, by decide +kernel, by decide +kernel, by decide +kernel⟩⟩
set_option maxHeartbeats 4000000 in
set_option maxRecDepth 100000 in
theorem c_X4_number {E : Ev} {a : Nat → Nat} {V : St} {p0 : Int32} {N : Nat} {o : Int32} (hf : f_X4_number N V p0 = some o) : ∀ l, MG l yX4_number cX4_number 2 (some .int) rm_X4_number E [.ref (a 0), .int p0] [sc E a V] (fun v Y => v = some (.int o) ∧ Y = [sc E a V]) := by
  refine MG.mk (own := RX4) (lv0 := [(0, .ref (a 0)), (1, .int p0)]) (by decide) rfl (Nat.le_of_ble_eq_true rfl) rfl (fun X C K I => ?_)
  unfold f_X4_number at hf
  refine g_iload_n C dX4_number_0 rfl 1 rfl ?_
  by_cases c1 : p0 = (0 : Int32)
  · have hf := (f_if hf).1 c1
    refine g_tin (tgt := 60) C dX4_number_1 (by rw [c1] <;> decide) (by rw [c1] <;> decide) (by rw [c1] <;> rfl) (by decide) ?_
    refine g_aload_n C dX4_number_60 rfl 0 rfl ?_
    refine g_get (Cl := RX4) (T := TX4) (N := 18) C mi_X4 0 rfl (List.mem_of_getElem? (i := 0) rfl) rfl 10 (by decide) mt_230 rfl rfl dX4_number_61 ?_
    obtain rfl := Option.some.inj hf
    exact g_iret C K dX4_number_64 (Nat.le_of_ble_eq_true rfl) (Nat.le_of_ble_eq_true rfl) ⟨rfl, rfl⟩
  have hf := (f_if hf).2 c1
  by_cases c2 : p0 = (1 : Int32)
  · have hf := (f_if hf).1 c2
    refine g_tin (tgt := 65) C dX4_number_1 (by rw [c2] <;> decide) (by rw [c2] <;> decide) (by rw [c2] <;> rfl) (by decide) ?_
    refine g_aload_n C dX4_number_65 rfl 0 rfl ?_
    refine g_get (Cl := RX4) (T := TX4) (N := 18) C mi_X4 0 rfl (List.mem_of_getElem? (i := 0) rfl) rfl 7 (by decide) mt_224 rfl rfl dX4_number_66 ?_
    obtain rfl := Option.some.inj hf
    exact g_iret C K dX4_number_69 (Nat.le_of_ble_eq_true rfl) (Nat.le_of_ble_eq_true rfl) ⟨rfl, rfl⟩
  have hf := (f_if hf).2 c2
  by_cases c3 : p0 = (2 : Int32)
  · have hf := (f_if hf).1 c3
    refine g_tin (tgt := 70) C dX4_number_1 (by rw [c3] <;> decide) (by rw [c3] <;> decide) (by rw [c3] <;> rfl) (by decide) ?_
    refine g_aload_n C dX4_number_70 rfl 0 rfl ?_
    obtain ⟨o4, hq5, hf⟩ := bind_s hf
    refine g_callV (As := []) (rest := []) C k_X4_totalWeight (fun l => c_X4_totalWeight (E := E) (a := a) (V := V) hq5 l) mt_399 [0] rfl (by decide) ⟨_, _, _, _, List.mem_flatten.mpr ⟨_, List.mem_of_getElem? (i := 0) rfl, List.mem_of_getElem? (i := 0) rfl⟩, rfl⟩ rfl (Nat.le_of_ble_eq_true rfl) ⟨Nat.le_of_ble_eq_true rfl, Nat.le_of_ble_eq_true rfl, Nat.le_of_ble_eq_true rfl, Nat.le_of_ble_eq_true rfl⟩ dX4_number_71 ?_
    rintro _ _ ⟨rfl, rfl⟩
    show G E X 2 [sc E a V] 0 0 [(0, .ref (a 0)), (1, .int p0)] [.int o4] 74
    obtain rfl := Option.some.inj hf
    exact g_iret C K dX4_number_74 (Nat.le_of_ble_eq_true rfl) (Nat.le_of_ble_eq_true rfl) ⟨rfl, rfl⟩
  have hf := (f_if hf).2 c3
  by_cases c6 : p0 = (3 : Int32)
  · have hf := (f_if hf).1 c6
    refine g_tin (tgt := 75) C dX4_number_1 (by rw [c6] <;> decide) (by rw [c6] <;> decide) (by rw [c6] <;> rfl) (by decide) ?_
    refine g_aload_n C dX4_number_75 rfl 0 rfl ?_
    refine g_get (Cl := RX4) (T := TX4) (N := 18) C mi_X4 0 rfl (List.mem_of_getElem? (i := 0) rfl) rfl 11 (by decide) mt_232 rfl rfl dX4_number_76 ?_
    obtain rfl := Option.some.inj hf
    exact g_iret C K dX4_number_79 (Nat.le_of_ble_eq_true rfl) (Nat.le_of_ble_eq_true rfl) ⟨rfl, rfl⟩
  have hf := (f_if hf).2 c6
  by_cases c7 : p0 = (4 : Int32)
  · have hf := (f_if hf).1 c7
    refine g_tin (tgt := 80) C dX4_number_1 (by rw [c7] <;> decide) (by rw [c7] <;> decide) (by rw [c7] <;> rfl) (by decide) ?_
    refine g_aload_n C dX4_number_80 rfl 0 rfl ?_
    refine g_get (Cl := RX4) (T := TX4) (N := 18) C mi_X4 0 rfl (List.mem_of_getElem? (i := 0) rfl) rfl 9 (by decide) mt_228 rfl rfl dX4_number_81 ?_
    obtain rfl := Option.some.inj hf
    exact g_iret C K dX4_number_84 (Nat.le_of_ble_eq_true rfl) (Nat.le_of_ble_eq_true rfl) ⟨rfl, rfl⟩
  have hf := (f_if hf).2 c7
  by_cases c8 : p0 = (5 : Int32)
  · have hf := (f_if hf).1 c8
    refine g_tin (tgt := 85) C dX4_number_1 (by rw [c8] <;> decide) (by rw [c8] <;> decide) (by rw [c8] <;> rfl) (by decide) ?_
    refine g_aload_n C dX4_number_85 rfl 0 rfl ?_
    refine g_get (Cl := RX4) (T := TX4) (N := 18) C mi_X4 0 rfl (List.mem_of_getElem? (i := 0) rfl) rfl 12 (by decide) mt_234 rfl rfl dX4_number_86 ?_
    obtain rfl := Option.some.inj hf
    exact g_iret C K dX4_number_89 (Nat.le_of_ble_eq_true rfl) (Nat.le_of_ble_eq_true rfl) ⟨rfl, rfl⟩
  have hf := (f_if hf).2 c8
  by_cases c9 : p0 = (6 : Int32)
  · have hf := (f_if hf).1 c9
    refine g_tin (tgt := 90) C dX4_number_1 (by rw [c9] <;> decide) (by rw [c9] <;> decide) (by rw [c9] <;> rfl) (by decide) ?_
    refine g_aload_n C dX4_number_90 rfl 0 rfl ?_
    refine g_get (Cl := RX4) (T := TX4) (N := 18) C mi_X4 0 rfl (List.mem_of_getElem? (i := 0) rfl) rfl 13 (by decide) mt_235 rfl rfl dX4_number_91 ?_
    obtain rfl := Option.some.inj hf
    exact g_iret C K dX4_number_94 (Nat.le_of_ble_eq_true rfl) (Nat.le_of_ble_eq_true rfl) ⟨rfl, rfl⟩
  have hf := (f_if hf).2 c9
  by_cases c10 : p0 = (7 : Int32)
  · have hf := (f_if hf).1 c10
    refine g_tin (tgt := 95) C dX4_number_1 (by rw [c10] <;> decide) (by rw [c10] <;> decide) (by rw [c10] <;> rfl) (by decide) ?_
    refine g_aload_n C dX4_number_95 rfl 0 rfl ?_
    refine g_get (Cl := RX4) (T := TX4) (N := 18) C mi_X4 0 rfl (List.mem_of_getElem? (i := 0) rfl) rfl 14 (by decide) mt_236 rfl rfl dX4_number_96 ?_
    obtain rfl := Option.some.inj hf
    exact g_iret C K dX4_number_99 (Nat.le_of_ble_eq_true rfl) (Nat.le_of_ble_eq_true rfl) ⟨rfl, rfl⟩
  have hf := (f_if hf).2 c10
  by_cases c11 : p0 = (8 : Int32)
  · have hf := (f_if hf).1 c11
    refine g_tin (tgt := 100) C dX4_number_1 (by rw [c11] <;> decide) (by rw [c11] <;> decide) (by rw [c11] <;> rfl) (by decide) ?_
    refine g_aload_n C dX4_number_100 rfl 0 rfl ?_
    refine g_get (Cl := RX4) (T := TX4) (N := 18) C mi_X4 0 rfl (List.mem_of_getElem? (i := 0) rfl) rfl 15 (by decide) mt_238 rfl rfl dX4_number_101 ?_
    obtain rfl := Option.some.inj hf
    exact g_iret C K dX4_number_104 (Nat.le_of_ble_eq_true rfl) (Nat.le_of_ble_eq_true rfl) ⟨rfl, rfl⟩
  have hf := (f_if hf).2 c11
  by_cases c12 : p0 = (9 : Int32)
  · have hf := (f_if hf).1 c12
    refine g_tin (tgt := 105) C dX4_number_1 (by rw [c12] <;> decide) (by rw [c12] <;> decide) (by rw [c12] <;> rfl) (by decide) ?_
    refine g_aload_n C dX4_number_105 rfl 0 rfl ?_
    refine g_get (Cl := RX4) (T := TX4) (N := 18) C mi_X4 0 rfl (List.mem_of_getElem? (i := 0) rfl) rfl 16 (by decide) mt_239 rfl rfl dX4_number_106 ?_
    obtain rfl := Option.some.inj hf
    exact g_iret C K dX4_number_109 (Nat.le_of_ble_eq_true rfl) (Nat.le_of_ble_eq_true rfl) ⟨rfl, rfl⟩
  have hf := (f_if hf).2 c12
  by_cases c13 : p0 = (10 : Int32)
  · have hf := (f_if hf).1 c13
    refine g_tin (tgt := 110) C dX4_number_1 (by rw [c13] <;> decide) (by rw [c13] <;> decide) (by rw [c13] <;> rfl) (by decide) ?_
    refine g_aload_n C dX4_number_110 rfl 0 rfl ?_
    refine g_get (Cl := RX4) (T := TX4) (N := 18) C mi_X4 0 rfl (List.mem_of_getElem? (i := 0) rfl) rfl 17 (by decide) mt_240 rfl rfl dX4_number_111 ?_
    obtain rfl := Option.some.inj hf
    exact g_iret C K dX4_number_114 (Nat.le_of_ble_eq_true rfl) (Nat.le_of_ble_eq_true rfl) ⟨rfl, rfl⟩
  have hf := (f_if hf).2 c13
  refine g_tout (tgt := 115) C dX4_number_1 (by have ec1 := ne_ti (a := 0) c1 rfl; have ec2 := ne_ti (a := 1) c2 rfl; have ec3 := ne_ti (a := 2) c3 rfl; have ec6 := ne_ti (a := 3) c6 rfl; have ec7 := ne_ti (a := 4) c7 rfl; have ec8 := ne_ti (a := 5) c8 rfl; have ec9 := ne_ti (a := 6) c9 rfl; have ec10 := ne_ti (a := 7) c10 rfl; have ec11 := ne_ti (a := 8) c11 rfl; have ec12 := ne_ti (a := 9) c12 rfl; have ec13 := ne_ti (a := 10) c13 rfl; omega) (by decide) ?_
  refine g_aload_n C dX4_number_115 rfl 0 rfl ?_
  refine g_iload_n C dX4_number_116 rfl 1 rfl ?_
  refine g_bipush (v := (11 : Int32)) C dX4_number_117 (by decide) ?_
  refine g_isub C dX4_number_119 ?_
  obtain ⟨o14, hq15, hf⟩ := bind_s hf
  refine g_callV (As := [.int (p0 - (11 : Int32))]) (rest := []) C k_X4_settingCounted (fun l => c_X4_settingCounted (E := E) (a := a) (V := V) hq15 l) mt_468 [0] rfl (by decide) ⟨_, _, _, _, List.mem_flatten.mpr ⟨_, List.mem_of_getElem? (i := 0) rfl, List.mem_of_getElem? (i := 0) rfl⟩, rfl⟩ rfl (Nat.le_of_ble_eq_true rfl) ⟨Nat.le_of_ble_eq_true rfl, Nat.le_of_ble_eq_true rfl, Nat.le_of_ble_eq_true rfl, Nat.le_of_ble_eq_true rfl⟩ dX4_number_120 ?_
  rintro _ _ ⟨rfl, rfl⟩
  show G E X 2 [sc E a V] 0 0 [(0, .ref (a 0)), (1, .int p0)] [.int o14] 123
  obtain rfl := Option.some.inj hf
  exact g_iret C K dX4_number_123 (Nat.le_of_ble_eq_true rfl) (Nat.le_of_ble_eq_true rfl) ⟨rfl, rfl⟩
def f_X4_stepOn (V : St) (p0 : Int32) : Option (St) := (if V.2.2.2.2.2.2.2.1 < (20 : Int32) then (ix V.2.2.2.2.2.2.2.1 20 (ix V.2.2.2.2.2.2.2.1 20 (ix V.2.2.2.2.2.2.2.1 20 (some (V.1, (upd V.2.1 (Int32.toNatClampNeg V.2.2.2.2.2.2.2.1) (0 : Int32)), (upd V.2.2.1 (Int32.toNatClampNeg V.2.2.2.2.2.2.2.1) p0), (upd V.2.2.2.1 (Int32.toNatClampNeg V.2.2.2.2.2.2.2.1) V.2.2.2.2.2.2.2.2.2.2.1), V.2.2.2.2.1, V.2.2.2.2.2.1, V.2.2.2.2.2.2.1, (V.2.2.2.2.2.2.2.1 + (1 : Int32)), V.2.2.2.2.2.2.2.2.1, V.2.2.2.2.2.2.2.2.2.1, V.2.2.2.2.2.2.2.2.2.2.1, V.2.2.2.2.2.2.2.2.2.2.2.1, V.2.2.2.2.2.2.2.2.2.2.2.2.1, V.2.2.2.2.2.2.2.2.2.2.2.2.2.1, V.2.2.2.2.2.2.2.2.2.2.2.2.2.2.1, V.2.2.2.2.2.2.2.2.2.2.2.2.2.2.2.1, V.2.2.2.2.2.2.2.2.2.2.2.2.2.2.2.2.1, V.2.2.2.2.2.2.2.2.2.2.2.2.2.2.2.2.2))))) else some V)
abbrev rm_X4_stepOn : Room := { frames := 0, cells := 0, slots := 0, locals := 0 }
set_option maxRecDepth 100000 in
theorem k_X4_stepOn : CF yX4_stepOn cX4_stepOn 2 (Option.none : Option FieldType) 1 := ⟨mt_343, mt_344, mt_10, mt_345, ⟨rfl, by decide +kernel, by decide +kernel, by decide +kernel⟩⟩
set_option maxHeartbeats 4000000 in
set_option maxRecDepth 100000 in
theorem c_X4_stepOn {E : Ev} {a : Nat → Nat} {V : St} {p0 : Int32} {o : St} (hf : f_X4_stepOn V p0 = some o) : ∀ l, MG l yX4_stepOn cX4_stepOn 2 (Option.none : Option FieldType) rm_X4_stepOn E [.ref (a 0), .int p0] [sc E a V] (fun v Y => v = none ∧ Y = [sc E a o]) := by
  refine MG.mk (own := RX4) (lv0 := [(0, .ref (a 0)), (1, .int p0)]) (by decide) rfl (Nat.le_of_ble_eq_true rfl) rfl (fun X C K I => ?_)
  unfold f_X4_stepOn at hf
  refine g_aload_n C dX4_stepOn_0 rfl 0 rfl ?_
  refine g_get (Cl := RX4) (T := TX4) (N := 18) C mi_X4 0 rfl (List.mem_of_getElem? (i := 0) rfl) rfl 7 (by decide) mt_224 rfl rfl dX4_stepOn_1 ?_
  refine g_bipush (v := (20 : Int32)) C dX4_stepOn_4 (by decide) ?_
  refine g_icmp_lt (tgt := 10) C dX4_stepOn_6 (by decide) (fun c1 => ?_) (fun c1 => ?_)
  · have hf := (f_if hf).1 c1
    refine g_aload_n C dX4_stepOn_10 rfl 0 rfl ?_
    refine g_get (Cl := RX4) (T := TX4) (N := 18) C mi_X4 0 rfl (List.mem_of_getElem? (i := 0) rfl) rfl 1 (by decide) mt_212 rfl rfl dX4_stepOn_11 ?_
    refine g_aload_n C dX4_stepOn_14 rfl 0 rfl ?_
    refine g_get (Cl := RX4) (T := TX4) (N := 18) C mi_X4 0 rfl (List.mem_of_getElem? (i := 0) rfl) rfl 7 (by decide) mt_224 rfl rfl dX4_stepOn_15 ?_
    refine g_iconst (v := (0 : Int32)) C dX4_stepOn_18 (by decide) ?_
    obtain ⟨i2, hf⟩ := ix_s hf
    refine g_iast (Y2 := [sc E a (V.1, (upd V.2.1 (Int32.toNatClampNeg V.2.2.2.2.2.2.2.1) (0 : Int32)), V.2.2.1, V.2.2.2.1, V.2.2.2.2.1, V.2.2.2.2.2.1, V.2.2.2.2.2.2.1, V.2.2.2.2.2.2.2.1, V.2.2.2.2.2.2.2.2.1, V.2.2.2.2.2.2.2.2.2.1, V.2.2.2.2.2.2.2.2.2.2.1, V.2.2.2.2.2.2.2.2.2.2.2.1, V.2.2.2.2.2.2.2.2.2.2.2.2.1, V.2.2.2.2.2.2.2.2.2.2.2.2.2.1, V.2.2.2.2.2.2.2.2.2.2.2.2.2.2.1, V.2.2.2.2.2.2.2.2.2.2.2.2.2.2.2.1, V.2.2.2.2.2.2.2.2.2.2.2.2.2.2.2.2.1, V.2.2.2.2.2.2.2.2.2.2.2.2.2.2.2.2.2)]) C 0 2 rfl rfl i2 dX4_stepOn_19 rfl ?_
    refine g_aload_n C dX4_stepOn_20 rfl 0 rfl ?_
    refine g_get (Cl := RX4) (T := TX4) (N := 18) C mi_X4 0 rfl (List.mem_of_getElem? (i := 0) rfl) rfl 2 (by decide) mt_214 rfl rfl dX4_stepOn_21 ?_
    refine g_aload_n C dX4_stepOn_24 rfl 0 rfl ?_
    refine g_get (Cl := RX4) (T := TX4) (N := 18) C mi_X4 0 rfl (List.mem_of_getElem? (i := 0) rfl) rfl 7 (by decide) mt_224 rfl rfl dX4_stepOn_25 ?_
    refine g_iload_n C dX4_stepOn_28 rfl 1 rfl ?_
    obtain ⟨i3, hf⟩ := ix_s hf
    refine g_iast (Y2 := [sc E a (V.1, (upd V.2.1 (Int32.toNatClampNeg V.2.2.2.2.2.2.2.1) (0 : Int32)), (upd V.2.2.1 (Int32.toNatClampNeg V.2.2.2.2.2.2.2.1) p0), V.2.2.2.1, V.2.2.2.2.1, V.2.2.2.2.2.1, V.2.2.2.2.2.2.1, V.2.2.2.2.2.2.2.1, V.2.2.2.2.2.2.2.2.1, V.2.2.2.2.2.2.2.2.2.1, V.2.2.2.2.2.2.2.2.2.2.1, V.2.2.2.2.2.2.2.2.2.2.2.1, V.2.2.2.2.2.2.2.2.2.2.2.2.1, V.2.2.2.2.2.2.2.2.2.2.2.2.2.1, V.2.2.2.2.2.2.2.2.2.2.2.2.2.2.1, V.2.2.2.2.2.2.2.2.2.2.2.2.2.2.2.1, V.2.2.2.2.2.2.2.2.2.2.2.2.2.2.2.2.1, V.2.2.2.2.2.2.2.2.2.2.2.2.2.2.2.2.2)]) C 0 3 rfl rfl i3 dX4_stepOn_29 rfl ?_
    refine g_aload_n C dX4_stepOn_30 rfl 0 rfl ?_
    refine g_get (Cl := RX4) (T := TX4) (N := 18) C mi_X4 0 rfl (List.mem_of_getElem? (i := 0) rfl) rfl 3 (by decide) mt_216 rfl rfl dX4_stepOn_31 ?_
    refine g_aload_n C dX4_stepOn_34 rfl 0 rfl ?_
    refine g_get (Cl := RX4) (T := TX4) (N := 18) C mi_X4 0 rfl (List.mem_of_getElem? (i := 0) rfl) rfl 7 (by decide) mt_224 rfl rfl dX4_stepOn_35 ?_
    refine g_aload_n C dX4_stepOn_38 rfl 0 rfl ?_
    refine g_get (Cl := RX4) (T := TX4) (N := 18) C mi_X4 0 rfl (List.mem_of_getElem? (i := 0) rfl) rfl 10 (by decide) mt_230 rfl rfl dX4_stepOn_39 ?_
    obtain ⟨i4, hf⟩ := ix_s hf
    refine g_iast (Y2 := [sc E a (V.1, (upd V.2.1 (Int32.toNatClampNeg V.2.2.2.2.2.2.2.1) (0 : Int32)), (upd V.2.2.1 (Int32.toNatClampNeg V.2.2.2.2.2.2.2.1) p0), (upd V.2.2.2.1 (Int32.toNatClampNeg V.2.2.2.2.2.2.2.1) V.2.2.2.2.2.2.2.2.2.2.1), V.2.2.2.2.1, V.2.2.2.2.2.1, V.2.2.2.2.2.2.1, V.2.2.2.2.2.2.2.1, V.2.2.2.2.2.2.2.2.1, V.2.2.2.2.2.2.2.2.2.1, V.2.2.2.2.2.2.2.2.2.2.1, V.2.2.2.2.2.2.2.2.2.2.2.1, V.2.2.2.2.2.2.2.2.2.2.2.2.1, V.2.2.2.2.2.2.2.2.2.2.2.2.2.1, V.2.2.2.2.2.2.2.2.2.2.2.2.2.2.1, V.2.2.2.2.2.2.2.2.2.2.2.2.2.2.2.1, V.2.2.2.2.2.2.2.2.2.2.2.2.2.2.2.2.1, V.2.2.2.2.2.2.2.2.2.2.2.2.2.2.2.2.2)]) C 0 4 rfl rfl i4 dX4_stepOn_42 rfl ?_
    refine g_aload_n C dX4_stepOn_43 rfl 0 rfl ?_
    refine g_dup C dX4_stepOn_44 rfl ?_
    refine g_get (Cl := RX4) (T := TX4) (N := 18) C mi_X4 0 rfl (List.mem_of_getElem? (i := 0) rfl) rfl 7 (by decide) mt_224 rfl rfl dX4_stepOn_45 ?_
    refine g_iconst (v := (1 : Int32)) C dX4_stepOn_48 (by decide) ?_
    refine g_iadd C dX4_stepOn_49 ?_
    refine g_put (Cl := RX4) (T := TX4) (N := 18) (Y2 := [sc E a (V.1, (upd V.2.1 (Int32.toNatClampNeg V.2.2.2.2.2.2.2.1) (0 : Int32)), (upd V.2.2.1 (Int32.toNatClampNeg V.2.2.2.2.2.2.2.1) p0), (upd V.2.2.2.1 (Int32.toNatClampNeg V.2.2.2.2.2.2.2.1) V.2.2.2.2.2.2.2.2.2.2.1), V.2.2.2.2.1, V.2.2.2.2.2.1, V.2.2.2.2.2.2.1, (V.2.2.2.2.2.2.2.1 + (1 : Int32)), V.2.2.2.2.2.2.2.2.1, V.2.2.2.2.2.2.2.2.2.1, V.2.2.2.2.2.2.2.2.2.2.1, V.2.2.2.2.2.2.2.2.2.2.2.1, V.2.2.2.2.2.2.2.2.2.2.2.2.1, V.2.2.2.2.2.2.2.2.2.2.2.2.2.1, V.2.2.2.2.2.2.2.2.2.2.2.2.2.2.1, V.2.2.2.2.2.2.2.2.2.2.2.2.2.2.2.1, V.2.2.2.2.2.2.2.2.2.2.2.2.2.2.2.2.1, V.2.2.2.2.2.2.2.2.2.2.2.2.2.2.2.2.2)]) C mi_X4 tyX4_ok nmX4 0 0 rfl rfl rfl 7 (by decide) mt_224 rfl rfl rfl rfl rfl (Nat.le_of_ble_eq_true rfl) dX4_stepOn_50 rfl ?_
    obtain rfl := Option.some.inj hf
    exact g_ret C K dX4_stepOn_53 (Nat.le_of_ble_eq_true rfl) (Nat.le_of_ble_eq_true rfl) ⟨rfl, rfl⟩
  · have hf := (f_if hf).2 c1
    obtain rfl := Option.some.inj hf
    exact g_ret C K dX4_stepOn_9 (Nat.le_of_ble_eq_true rfl) (Nat.le_of_ble_eq_true rfl) ⟨rfl, rfl⟩
def f_X4_complains (V : St) (p0 : Int32) (p1 : Int32) : Option (Int32) := some ((V.2.2.2.2.2.2.2.2.1 >>> ((((2 : Int32) * p0) + p1) &&& 31)) &&& (1 : Int32))
abbrev rm_X4_complains : Room := { frames := 0, cells := 0, slots := 0, locals := 0 }
set_option maxRecDepth 100000 in
theorem k_X4_complains : CF yX4_complains cX4_complains 3 (some .int) 2 := ⟨mt_351, mt_352, mt_10, mt_353, ⟨rfl, by decide +kernel, by decide +kernel, by decide +kernel⟩⟩
set_option maxHeartbeats 4000000 in
set_option maxRecDepth 100000 in
theorem c_X4_complains {E : Ev} {a : Nat → Nat} {V : St} {p0 : Int32} {p1 : Int32} {o : Int32} (hf : f_X4_complains V p0 p1 = some o) : ∀ l, MG l yX4_complains cX4_complains 3 (some .int) rm_X4_complains E [.ref (a 0), .int p0, .int p1] [sc E a V] (fun v Y => v = some (.int o) ∧ Y = [sc E a V]) := by
  refine MG.mk (own := RX4) (lv0 := [(0, .ref (a 0)), (1, .int p0), (2, .int p1)]) (by decide) rfl (Nat.le_of_ble_eq_true rfl) rfl (fun X C K I => ?_)
  unfold f_X4_complains at hf
  refine g_aload_n C dX4_complains_0 rfl 0 rfl ?_
  refine g_get (Cl := RX4) (T := TX4) (N := 18) C mi_X4 0 rfl (List.mem_of_getElem? (i := 0) rfl) rfl 8 (by decide) mt_226 rfl rfl dX4_complains_1 ?_
  refine g_iconst (v := (2 : Int32)) C dX4_complains_4 (by decide) ?_
  refine g_iload_n C dX4_complains_5 rfl 1 rfl ?_
  refine g_imul C dX4_complains_6 ?_
  refine g_iload_n C dX4_complains_7 rfl 2 rfl ?_
  refine g_iadd C dX4_complains_8 ?_
  refine g_ishr C dX4_complains_9 ?_
  refine g_iconst (v := (1 : Int32)) C dX4_complains_10 (by decide) ?_
  refine g_iand C dX4_complains_11 ?_
  obtain rfl := Option.some.inj hf
  exact g_iret C K dX4_complains_12 (Nat.le_of_ble_eq_true rfl) (Nat.le_of_ble_eq_true rfl) ⟨rfl, rfl⟩
def f_X4_setComplaint (V : St) (p0 : Int32) (p1 : Int32) (p2 : Int32) : Option (St) := some (V.1, V.2.1, V.2.2.1, V.2.2.2.1, V.2.2.2.2.1, V.2.2.2.2.2.1, V.2.2.2.2.2.2.1, V.2.2.2.2.2.2.2.1, ((V.2.2.2.2.2.2.2.2.1 &&& (((1 : Int32) <<< ((((2 : Int32) * p0) + p1) &&& 31)) ^^^ (-1 : Int32))) ||| (p2 <<< ((((2 : Int32) * p0) + p1) &&& 31))), V.2.2.2.2.2.2.2.2.2.1, V.2.2.2.2.2.2.2.2.2.2.1, V.2.2.2.2.2.2.2.2.2.2.2.1, V.2.2.2.2.2.2.2.2.2.2.2.2.1, V.2.2.2.2.2.2.2.2.2.2.2.2.2.1, V.2.2.2.2.2.2.2.2.2.2.2.2.2.2.1, V.2.2.2.2.2.2.2.2.2.2.2.2.2.2.2.1, V.2.2.2.2.2.2.2.2.2.2.2.2.2.2.2.2.1, V.2.2.2.2.2.2.2.2.2.2.2.2.2.2.2.2.2)
abbrev rm_X4_setComplaint : Room := { frames := 0, cells := 0, slots := 0, locals := 0 }
set_option maxRecDepth 100000 in
theorem k_X4_setComplaint : CF yX4_setComplaint cX4_setComplaint 5 (Option.none : Option FieldType) 3 := ⟨mt_355, mt_356, mt_10, mt_357, ⟨rfl, by decide +kernel, by decide +kernel, by decide +kernel⟩⟩
set_option maxHeartbeats 4000000 in
set_option maxRecDepth 100000 in
theorem c_X4_setComplaint {E : Ev} {a : Nat → Nat} {V : St} {p0 : Int32} {p1 : Int32} {p2 : Int32} {o : St} (hf : f_X4_setComplaint V p0 p1 p2 = some o) : ∀ l, MG l yX4_setComplaint cX4_setComplaint 5 (Option.none : Option FieldType) rm_X4_setComplaint E [.ref (a 0), .int p0, .int p1, .int p2] [sc E a V] (fun v Y => v = none ∧ Y = [sc E a o]) := by
  refine MG.mk (own := RX4) (lv0 := [(0, .ref (a 0)), (1, .int p0), (2, .int p1), (3, .int p2)]) (by decide) rfl (Nat.le_of_ble_eq_true rfl) rfl (fun X C K I => ?_)
  unfold f_X4_setComplaint at hf
  refine g_iconst (v := (2 : Int32)) C dX4_setComplaint_0 (by decide) ?_
  refine g_iload_n C dX4_setComplaint_1 rfl 1 rfl ?_
  refine g_imul C dX4_setComplaint_2 ?_
  refine g_iload_n C dX4_setComplaint_3 rfl 2 rfl ?_
  refine g_iadd C dX4_setComplaint_4 ?_
  refine g_istore (lv2 := [(4, .int (((2 : Int32) * p0) + p1)), (0, .ref (a 0)), (1, .int p0), (2, .int p1), (3, .int p2)]) C dX4_setComplaint_5 (by decide) rfl ?_
  refine g_aload_n C dX4_setComplaint_7 rfl 1 rfl ?_
  refine g_aload_n C dX4_setComplaint_8 rfl 1 rfl ?_
  refine g_get (Cl := RX4) (T := TX4) (N := 18) C mi_X4 0 rfl (List.mem_of_getElem? (i := 0) rfl) rfl 8 (by decide) mt_226 rfl rfl dX4_setComplaint_9 ?_
  refine g_iconst (v := (1 : Int32)) C dX4_setComplaint_12 (by decide) ?_
  refine g_iload C dX4_setComplaint_13 0 rfl ?_
  refine g_ishl C dX4_setComplaint_15 ?_
  refine g_iconst (v := (-1 : Int32)) C dX4_setComplaint_16 ofI_m1 ?_
  refine g_ixor C dX4_setComplaint_17 ?_
  refine g_iand C dX4_setComplaint_18 ?_
  refine g_iload_n C dX4_setComplaint_19 rfl 4 rfl ?_
  refine g_iload C dX4_setComplaint_20 0 rfl ?_
  refine g_ishl C dX4_setComplaint_22 ?_
  refine g_ior C dX4_setComplaint_23 ?_
  refine g_put (Cl := RX4) (T := TX4) (N := 18) (Y2 := [sc E a (V.1, V.2.1, V.2.2.1, V.2.2.2.1, V.2.2.2.2.1, V.2.2.2.2.2.1, V.2.2.2.2.2.2.1, V.2.2.2.2.2.2.2.1, ((V.2.2.2.2.2.2.2.2.1 &&& (((1 : Int32) <<< ((((2 : Int32) * p0) + p1) &&& 31)) ^^^ (-1 : Int32))) ||| (p2 <<< ((((2 : Int32) * p0) + p1) &&& 31))), V.2.2.2.2.2.2.2.2.2.1, V.2.2.2.2.2.2.2.2.2.2.1, V.2.2.2.2.2.2.2.2.2.2.2.1, V.2.2.2.2.2.2.2.2.2.2.2.2.1, V.2.2.2.2.2.2.2.2.2.2.2.2.2.1, V.2.2.2.2.2.2.2.2.2.2.2.2.2.2.1, V.2.2.2.2.2.2.2.2.2.2.2.2.2.2.2.1, V.2.2.2.2.2.2.2.2.2.2.2.2.2.2.2.2.1, V.2.2.2.2.2.2.2.2.2.2.2.2.2.2.2.2.2)]) C mi_X4 tyX4_ok nmX4 0 0 rfl rfl rfl 8 (by decide) mt_226 rfl rfl rfl rfl rfl (Nat.le_of_ble_eq_true rfl) dX4_setComplaint_24 rfl ?_
  obtain rfl := Option.some.inj hf
  exact g_ret C K dX4_setComplaint_27 (Nat.le_of_ble_eq_true rfl) (Nat.le_of_ble_eq_true rfl) ⟨rfl, rfl⟩
def f_X4_beginStop (N : Nat) (V : St) (p0 : Int32) : Option (St) := ((f_X4_totalWeight N (V.1, V.2.1, V.2.2.1, V.2.2.2.1, V.2.2.2.2.1, (upd (upd (va_cpy V.2.2.2.2.2.1 V.2.2.2.2.2.1 (Int32.toNatClampNeg (0 : Int32)) (Int32.toNatClampNeg (5 : Int32)) (Int32.toNatClampNeg (25 : Int32))) (Int32.toNatClampNeg (0 : Int32)) V.2.2.2.2.2.2.2.2.2.2.1) (Int32.toNatClampNeg (1 : Int32)) V.2.2.2.2.2.2.2.2.2.2.2.1), V.2.2.2.2.2.2.1, V.2.2.2.2.2.2.2.1, V.2.2.2.2.2.2.2.2.1, (1 : Int32), V.2.2.2.2.2.2.2.2.2.2.1, V.2.2.2.2.2.2.2.2.2.2.2.1, V.2.2.2.2.2.2.2.2.2.2.2.2.1, V.2.2.2.2.2.2.2.2.2.2.2.2.2.1, (V.2.2.2.2.2.2.2.2.2.2.2.2.2.2.1 + (1 : Int32)), V.2.2.2.2.2.2.2.2.2.2.2.2.2.2.2.1, V.2.2.2.2.2.2.2.2.2.2.2.2.2.2.2.2.1, V.2.2.2.2.2.2.2.2.2.2.2.2.2.2.2.2.2)).bind fun o1 => some (V.1, V.2.1, V.2.2.1, V.2.2.2.1, V.2.2.2.2.1, (upd (upd (upd (upd (upd (va_cpy V.2.2.2.2.2.1 V.2.2.2.2.2.1 (Int32.toNatClampNeg (0 : Int32)) (Int32.toNatClampNeg (5 : Int32)) (Int32.toNatClampNeg (25 : Int32))) (Int32.toNatClampNeg (0 : Int32)) V.2.2.2.2.2.2.2.2.2.2.1) (Int32.toNatClampNeg (1 : Int32)) V.2.2.2.2.2.2.2.2.2.2.2.1) (Int32.toNatClampNeg (2 : Int32)) o1) (Int32.toNatClampNeg (3 : Int32)) V.2.2.2.2.2.2.2.2.1) (Int32.toNatClampNeg (4 : Int32)) p0), V.2.2.2.2.2.2.1, V.2.2.2.2.2.2.2.1, V.2.2.2.2.2.2.2.2.1, (1 : Int32), V.2.2.2.2.2.2.2.2.2.2.1, V.2.2.2.2.2.2.2.2.2.2.2.1, V.2.2.2.2.2.2.2.2.2.2.2.2.1, V.2.2.2.2.2.2.2.2.2.2.2.2.2.1, (V.2.2.2.2.2.2.2.2.2.2.2.2.2.2.1 + (1 : Int32)), V.2.2.2.2.2.2.2.2.2.2.2.2.2.2.2.1, V.2.2.2.2.2.2.2.2.2.2.2.2.2.2.2.2.1, V.2.2.2.2.2.2.2.2.2.2.2.2.2.2.2.2.2))
abbrev rm_X4_beginStop : Room := { frames := 1, cells := 0, slots := 0, locals := 22 }
set_option maxRecDepth 100000 in
theorem k_X4_beginStop : CF yX4_beginStop cX4_beginStop 2 (Option.none : Option FieldType) 1 := ⟨mt_396, mt_397, mt_10, mt_398, ⟨rfl, by decide +kernel, by decide +kernel, by decide +kernel⟩⟩
set_option maxHeartbeats 4000000 in
set_option maxRecDepth 100000 in
theorem c_X4_beginStop {E : Ev} {a : Nat → Nat} {V : St} {p0 : Int32} {N : Nat} {o : St} (hf : f_X4_beginStop N V p0 = some o) : ∀ l, MG l yX4_beginStop cX4_beginStop 2 (Option.none : Option FieldType) rm_X4_beginStop E [.ref (a 0), .int p0] [sc E a V] (fun v Y => v = none ∧ Y = [sc E a o]) := by
  refine MG.mk (own := RX4) (lv0 := [(0, .ref (a 0)), (1, .int p0)]) (by decide) rfl (Nat.le_of_ble_eq_true rfl) rfl (fun X C K I => ?_)
  unfold f_X4_beginStop at hf
  refine g_aload_n C dX4_beginStop_0 rfl 0 rfl ?_
  refine g_iconst (v := (1 : Int32)) C dX4_beginStop_1 (by decide) ?_
  refine g_put (Cl := RX4) (T := TX4) (N := 18) (Y2 := [sc E a (V.1, V.2.1, V.2.2.1, V.2.2.2.1, V.2.2.2.2.1, V.2.2.2.2.2.1, V.2.2.2.2.2.2.1, V.2.2.2.2.2.2.2.1, V.2.2.2.2.2.2.2.2.1, (1 : Int32), V.2.2.2.2.2.2.2.2.2.2.1, V.2.2.2.2.2.2.2.2.2.2.2.1, V.2.2.2.2.2.2.2.2.2.2.2.2.1, V.2.2.2.2.2.2.2.2.2.2.2.2.2.1, V.2.2.2.2.2.2.2.2.2.2.2.2.2.2.1, V.2.2.2.2.2.2.2.2.2.2.2.2.2.2.2.1, V.2.2.2.2.2.2.2.2.2.2.2.2.2.2.2.2.1, V.2.2.2.2.2.2.2.2.2.2.2.2.2.2.2.2.2)]) C mi_X4 tyX4_ok nmX4 0 0 rfl rfl rfl 9 (by decide) mt_228 rfl rfl rfl rfl rfl (Nat.le_of_ble_eq_true rfl) dX4_beginStop_2 rfl ?_
  refine g_aload_n C dX4_beginStop_5 rfl 0 rfl ?_
  refine g_dup C dX4_beginStop_6 rfl ?_
  refine g_get (Cl := RX4) (T := TX4) (N := 18) C mi_X4 0 rfl (List.mem_of_getElem? (i := 0) rfl) rfl 14 (by decide) mt_236 rfl rfl dX4_beginStop_7 ?_
  refine g_iconst (v := (1 : Int32)) C dX4_beginStop_10 (by decide) ?_
  refine g_iadd C dX4_beginStop_11 ?_
  refine g_put (Cl := RX4) (T := TX4) (N := 18) (Y2 := [sc E a (V.1, V.2.1, V.2.2.1, V.2.2.2.1, V.2.2.2.2.1, V.2.2.2.2.2.1, V.2.2.2.2.2.2.1, V.2.2.2.2.2.2.2.1, V.2.2.2.2.2.2.2.2.1, (1 : Int32), V.2.2.2.2.2.2.2.2.2.2.1, V.2.2.2.2.2.2.2.2.2.2.2.1, V.2.2.2.2.2.2.2.2.2.2.2.2.1, V.2.2.2.2.2.2.2.2.2.2.2.2.2.1, (V.2.2.2.2.2.2.2.2.2.2.2.2.2.2.1 + (1 : Int32)), V.2.2.2.2.2.2.2.2.2.2.2.2.2.2.2.1, V.2.2.2.2.2.2.2.2.2.2.2.2.2.2.2.2.1, V.2.2.2.2.2.2.2.2.2.2.2.2.2.2.2.2.2)]) C mi_X4 tyX4_ok nmX4 0 0 rfl rfl rfl 14 (by decide) mt_236 rfl rfl rfl rfl rfl (Nat.le_of_ble_eq_true rfl) dX4_beginStop_12 rfl ?_
  refine g_aload_n C dX4_beginStop_15 rfl 0 rfl ?_
  refine g_get (Cl := RX4) (T := TX4) (N := 18) C mi_X4 0 rfl (List.mem_of_getElem? (i := 0) rfl) rfl 5 (by decide) mt_220 rfl rfl dX4_beginStop_16 ?_
  refine g_iconst (v := (0 : Int32)) C dX4_beginStop_19 (by decide) ?_
  refine g_aload_n C dX4_beginStop_20 rfl 0 rfl ?_
  refine g_get (Cl := RX4) (T := TX4) (N := 18) C mi_X4 0 rfl (List.mem_of_getElem? (i := 0) rfl) rfl 5 (by decide) mt_220 rfl rfl dX4_beginStop_21 ?_
  refine g_iconst (v := (5 : Int32)) C dX4_beginStop_24 (by decide) ?_
  refine g_bipush (v := (25 : Int32)) C dX4_beginStop_25 (by decide) ?_
  refine g_copyi (Y2 := [sc E a (V.1, V.2.1, V.2.2.1, V.2.2.2.1, V.2.2.2.2.1, (va_cpy V.2.2.2.2.2.1 V.2.2.2.2.2.1 (Int32.toNatClampNeg (0 : Int32)) (Int32.toNatClampNeg (5 : Int32)) (Int32.toNatClampNeg (25 : Int32))), V.2.2.2.2.2.2.1, V.2.2.2.2.2.2.2.1, V.2.2.2.2.2.2.2.2.1, (1 : Int32), V.2.2.2.2.2.2.2.2.2.2.1, V.2.2.2.2.2.2.2.2.2.2.2.1, V.2.2.2.2.2.2.2.2.2.2.2.2.1, V.2.2.2.2.2.2.2.2.2.2.2.2.2.1, (V.2.2.2.2.2.2.2.2.2.2.2.2.2.2.1 + (1 : Int32)), V.2.2.2.2.2.2.2.2.2.2.2.2.2.2.2.1, V.2.2.2.2.2.2.2.2.2.2.2.2.2.2.2.2.1, V.2.2.2.2.2.2.2.2.2.2.2.2.2.2.2.2.2)]) C mt_207 mt_209 mt_208 mt_11 0 0 6 rfl (List.mem_of_getElem? (i := 6) rfl) rfl rfl (by decide) (by decide) (by decide) (by decide) (by decide) (Nat.le_of_ble_eq_true rfl) (Nat.le_of_ble_eq_true rfl) dX4_beginStop_27 rfl ?_
  refine g_aload_n C dX4_beginStop_30 rfl 0 rfl ?_
  refine g_get (Cl := RX4) (T := TX4) (N := 18) C mi_X4 0 rfl (List.mem_of_getElem? (i := 0) rfl) rfl 5 (by decide) mt_220 rfl rfl dX4_beginStop_31 ?_
  refine g_iconst (v := (0 : Int32)) C dX4_beginStop_34 (by decide) ?_
  refine g_aload_n C dX4_beginStop_35 rfl 0 rfl ?_
  refine g_get (Cl := RX4) (T := TX4) (N := 18) C mi_X4 0 rfl (List.mem_of_getElem? (i := 0) rfl) rfl 10 (by decide) mt_230 rfl rfl dX4_beginStop_36 ?_
  refine g_iast (Y2 := [sc E a (V.1, V.2.1, V.2.2.1, V.2.2.2.1, V.2.2.2.2.1, (upd (va_cpy V.2.2.2.2.2.1 V.2.2.2.2.2.1 (Int32.toNatClampNeg (0 : Int32)) (Int32.toNatClampNeg (5 : Int32)) (Int32.toNatClampNeg (25 : Int32))) (Int32.toNatClampNeg (0 : Int32)) V.2.2.2.2.2.2.2.2.2.2.1), V.2.2.2.2.2.2.1, V.2.2.2.2.2.2.2.1, V.2.2.2.2.2.2.2.2.1, (1 : Int32), V.2.2.2.2.2.2.2.2.2.2.1, V.2.2.2.2.2.2.2.2.2.2.2.1, V.2.2.2.2.2.2.2.2.2.2.2.2.1, V.2.2.2.2.2.2.2.2.2.2.2.2.2.1, (V.2.2.2.2.2.2.2.2.2.2.2.2.2.2.1 + (1 : Int32)), V.2.2.2.2.2.2.2.2.2.2.2.2.2.2.2.1, V.2.2.2.2.2.2.2.2.2.2.2.2.2.2.2.2.1, V.2.2.2.2.2.2.2.2.2.2.2.2.2.2.2.2.2)]) C 0 6 rfl rfl (by show ¬ (_ ∨ _); decide) dX4_beginStop_39 rfl ?_
  refine g_aload_n C dX4_beginStop_40 rfl 0 rfl ?_
  refine g_get (Cl := RX4) (T := TX4) (N := 18) C mi_X4 0 rfl (List.mem_of_getElem? (i := 0) rfl) rfl 5 (by decide) mt_220 rfl rfl dX4_beginStop_41 ?_
  refine g_iconst (v := (1 : Int32)) C dX4_beginStop_44 (by decide) ?_
  refine g_aload_n C dX4_beginStop_45 rfl 0 rfl ?_
  refine g_get (Cl := RX4) (T := TX4) (N := 18) C mi_X4 0 rfl (List.mem_of_getElem? (i := 0) rfl) rfl 11 (by decide) mt_232 rfl rfl dX4_beginStop_46 ?_
  refine g_iast (Y2 := [sc E a (V.1, V.2.1, V.2.2.1, V.2.2.2.1, V.2.2.2.2.1, (upd (upd (va_cpy V.2.2.2.2.2.1 V.2.2.2.2.2.1 (Int32.toNatClampNeg (0 : Int32)) (Int32.toNatClampNeg (5 : Int32)) (Int32.toNatClampNeg (25 : Int32))) (Int32.toNatClampNeg (0 : Int32)) V.2.2.2.2.2.2.2.2.2.2.1) (Int32.toNatClampNeg (1 : Int32)) V.2.2.2.2.2.2.2.2.2.2.2.1), V.2.2.2.2.2.2.1, V.2.2.2.2.2.2.2.1, V.2.2.2.2.2.2.2.2.1, (1 : Int32), V.2.2.2.2.2.2.2.2.2.2.1, V.2.2.2.2.2.2.2.2.2.2.2.1, V.2.2.2.2.2.2.2.2.2.2.2.2.1, V.2.2.2.2.2.2.2.2.2.2.2.2.2.1, (V.2.2.2.2.2.2.2.2.2.2.2.2.2.2.1 + (1 : Int32)), V.2.2.2.2.2.2.2.2.2.2.2.2.2.2.2.1, V.2.2.2.2.2.2.2.2.2.2.2.2.2.2.2.2.1, V.2.2.2.2.2.2.2.2.2.2.2.2.2.2.2.2.2)]) C 0 6 rfl rfl (by show ¬ (_ ∨ _); decide) dX4_beginStop_49 rfl ?_
  refine g_aload_n C dX4_beginStop_50 rfl 0 rfl ?_
  refine g_get (Cl := RX4) (T := TX4) (N := 18) C mi_X4 0 rfl (List.mem_of_getElem? (i := 0) rfl) rfl 5 (by decide) mt_220 rfl rfl dX4_beginStop_51 ?_
  refine g_iconst (v := (2 : Int32)) C dX4_beginStop_54 (by decide) ?_
  refine g_aload_n C dX4_beginStop_55 rfl 0 rfl ?_
  obtain ⟨o1, hq2, hf⟩ := bind_s hf
  refine g_callV (As := []) (rest := [.int (2 : Int32), .ref (a 6)]) C k_X4_totalWeight (fun l => c_X4_totalWeight (E := E) (a := a) (V := (V.1, V.2.1, V.2.2.1, V.2.2.2.1, V.2.2.2.2.1, (upd (upd (va_cpy V.2.2.2.2.2.1 V.2.2.2.2.2.1 (Int32.toNatClampNeg (0 : Int32)) (Int32.toNatClampNeg (5 : Int32)) (Int32.toNatClampNeg (25 : Int32))) (Int32.toNatClampNeg (0 : Int32)) V.2.2.2.2.2.2.2.2.2.2.1) (Int32.toNatClampNeg (1 : Int32)) V.2.2.2.2.2.2.2.2.2.2.2.1), V.2.2.2.2.2.2.1, V.2.2.2.2.2.2.2.1, V.2.2.2.2.2.2.2.2.1, (1 : Int32), V.2.2.2.2.2.2.2.2.2.2.1, V.2.2.2.2.2.2.2.2.2.2.2.1, V.2.2.2.2.2.2.2.2.2.2.2.2.1, V.2.2.2.2.2.2.2.2.2.2.2.2.2.1, (V.2.2.2.2.2.2.2.2.2.2.2.2.2.2.1 + (1 : Int32)), V.2.2.2.2.2.2.2.2.2.2.2.2.2.2.2.1, V.2.2.2.2.2.2.2.2.2.2.2.2.2.2.2.2.1, V.2.2.2.2.2.2.2.2.2.2.2.2.2.2.2.2.2)) hq2 l) mt_399 [0] rfl (by decide) ⟨_, _, _, _, List.mem_flatten.mpr ⟨_, List.mem_of_getElem? (i := 0) rfl, List.mem_of_getElem? (i := 0) rfl⟩, rfl⟩ rfl (Nat.le_of_ble_eq_true rfl) ⟨Nat.le_of_ble_eq_true rfl, Nat.le_of_ble_eq_true rfl, Nat.le_of_ble_eq_true rfl, Nat.le_of_ble_eq_true rfl⟩ dX4_beginStop_56 ?_
  rintro _ _ ⟨rfl, rfl⟩
  show G E X 2 [sc E a (V.1, V.2.1, V.2.2.1, V.2.2.2.1, V.2.2.2.2.1, (upd (upd (va_cpy V.2.2.2.2.2.1 V.2.2.2.2.2.1 (Int32.toNatClampNeg (0 : Int32)) (Int32.toNatClampNeg (5 : Int32)) (Int32.toNatClampNeg (25 : Int32))) (Int32.toNatClampNeg (0 : Int32)) V.2.2.2.2.2.2.2.2.2.2.1) (Int32.toNatClampNeg (1 : Int32)) V.2.2.2.2.2.2.2.2.2.2.2.1), V.2.2.2.2.2.2.1, V.2.2.2.2.2.2.2.1, V.2.2.2.2.2.2.2.2.1, (1 : Int32), V.2.2.2.2.2.2.2.2.2.2.1, V.2.2.2.2.2.2.2.2.2.2.2.1, V.2.2.2.2.2.2.2.2.2.2.2.2.1, V.2.2.2.2.2.2.2.2.2.2.2.2.2.1, (V.2.2.2.2.2.2.2.2.2.2.2.2.2.2.1 + (1 : Int32)), V.2.2.2.2.2.2.2.2.2.2.2.2.2.2.2.1, V.2.2.2.2.2.2.2.2.2.2.2.2.2.2.2.2.1, V.2.2.2.2.2.2.2.2.2.2.2.2.2.2.2.2.2)] 0 0 [(0, .ref (a 0)), (1, .int p0)] [.int o1, .int (2 : Int32), .ref (a 6)] 59
  refine g_iast (Y2 := [sc E a (V.1, V.2.1, V.2.2.1, V.2.2.2.1, V.2.2.2.2.1, (upd (upd (upd (va_cpy V.2.2.2.2.2.1 V.2.2.2.2.2.1 (Int32.toNatClampNeg (0 : Int32)) (Int32.toNatClampNeg (5 : Int32)) (Int32.toNatClampNeg (25 : Int32))) (Int32.toNatClampNeg (0 : Int32)) V.2.2.2.2.2.2.2.2.2.2.1) (Int32.toNatClampNeg (1 : Int32)) V.2.2.2.2.2.2.2.2.2.2.2.1) (Int32.toNatClampNeg (2 : Int32)) o1), V.2.2.2.2.2.2.1, V.2.2.2.2.2.2.2.1, V.2.2.2.2.2.2.2.2.1, (1 : Int32), V.2.2.2.2.2.2.2.2.2.2.1, V.2.2.2.2.2.2.2.2.2.2.2.1, V.2.2.2.2.2.2.2.2.2.2.2.2.1, V.2.2.2.2.2.2.2.2.2.2.2.2.2.1, (V.2.2.2.2.2.2.2.2.2.2.2.2.2.2.1 + (1 : Int32)), V.2.2.2.2.2.2.2.2.2.2.2.2.2.2.2.1, V.2.2.2.2.2.2.2.2.2.2.2.2.2.2.2.2.1, V.2.2.2.2.2.2.2.2.2.2.2.2.2.2.2.2.2)]) C 0 6 rfl rfl (by show ¬ (_ ∨ _); decide) dX4_beginStop_59 rfl ?_
  refine g_aload_n C dX4_beginStop_60 rfl 0 rfl ?_
  refine g_get (Cl := RX4) (T := TX4) (N := 18) C mi_X4 0 rfl (List.mem_of_getElem? (i := 0) rfl) rfl 5 (by decide) mt_220 rfl rfl dX4_beginStop_61 ?_
  refine g_iconst (v := (3 : Int32)) C dX4_beginStop_64 (by decide) ?_
  refine g_aload_n C dX4_beginStop_65 rfl 0 rfl ?_
  refine g_get (Cl := RX4) (T := TX4) (N := 18) C mi_X4 0 rfl (List.mem_of_getElem? (i := 0) rfl) rfl 8 (by decide) mt_226 rfl rfl dX4_beginStop_66 ?_
  refine g_iast (Y2 := [sc E a (V.1, V.2.1, V.2.2.1, V.2.2.2.1, V.2.2.2.2.1, (upd (upd (upd (upd (va_cpy V.2.2.2.2.2.1 V.2.2.2.2.2.1 (Int32.toNatClampNeg (0 : Int32)) (Int32.toNatClampNeg (5 : Int32)) (Int32.toNatClampNeg (25 : Int32))) (Int32.toNatClampNeg (0 : Int32)) V.2.2.2.2.2.2.2.2.2.2.1) (Int32.toNatClampNeg (1 : Int32)) V.2.2.2.2.2.2.2.2.2.2.2.1) (Int32.toNatClampNeg (2 : Int32)) o1) (Int32.toNatClampNeg (3 : Int32)) V.2.2.2.2.2.2.2.2.1), V.2.2.2.2.2.2.1, V.2.2.2.2.2.2.2.1, V.2.2.2.2.2.2.2.2.1, (1 : Int32), V.2.2.2.2.2.2.2.2.2.2.1, V.2.2.2.2.2.2.2.2.2.2.2.1, V.2.2.2.2.2.2.2.2.2.2.2.2.1, V.2.2.2.2.2.2.2.2.2.2.2.2.2.1, (V.2.2.2.2.2.2.2.2.2.2.2.2.2.2.1 + (1 : Int32)), V.2.2.2.2.2.2.2.2.2.2.2.2.2.2.2.1, V.2.2.2.2.2.2.2.2.2.2.2.2.2.2.2.2.1, V.2.2.2.2.2.2.2.2.2.2.2.2.2.2.2.2.2)]) C 0 6 rfl rfl (by show ¬ (_ ∨ _); decide) dX4_beginStop_69 rfl ?_
  refine g_aload_n C dX4_beginStop_70 rfl 0 rfl ?_
  refine g_get (Cl := RX4) (T := TX4) (N := 18) C mi_X4 0 rfl (List.mem_of_getElem? (i := 0) rfl) rfl 5 (by decide) mt_220 rfl rfl dX4_beginStop_71 ?_
  refine g_iconst (v := (4 : Int32)) C dX4_beginStop_74 (by decide) ?_
  refine g_iload_n C dX4_beginStop_75 rfl 1 rfl ?_
  refine g_iast (Y2 := [sc E a (V.1, V.2.1, V.2.2.1, V.2.2.2.1, V.2.2.2.2.1, (upd (upd (upd (upd (upd (va_cpy V.2.2.2.2.2.1 V.2.2.2.2.2.1 (Int32.toNatClampNeg (0 : Int32)) (Int32.toNatClampNeg (5 : Int32)) (Int32.toNatClampNeg (25 : Int32))) (Int32.toNatClampNeg (0 : Int32)) V.2.2.2.2.2.2.2.2.2.2.1) (Int32.toNatClampNeg (1 : Int32)) V.2.2.2.2.2.2.2.2.2.2.2.1) (Int32.toNatClampNeg (2 : Int32)) o1) (Int32.toNatClampNeg (3 : Int32)) V.2.2.2.2.2.2.2.2.1) (Int32.toNatClampNeg (4 : Int32)) p0), V.2.2.2.2.2.2.1, V.2.2.2.2.2.2.2.1, V.2.2.2.2.2.2.2.2.1, (1 : Int32), V.2.2.2.2.2.2.2.2.2.2.1, V.2.2.2.2.2.2.2.2.2.2.2.1, V.2.2.2.2.2.2.2.2.2.2.2.2.1, V.2.2.2.2.2.2.2.2.2.2.2.2.2.1, (V.2.2.2.2.2.2.2.2.2.2.2.2.2.2.1 + (1 : Int32)), V.2.2.2.2.2.2.2.2.2.2.2.2.2.2.2.1, V.2.2.2.2.2.2.2.2.2.2.2.2.2.2.2.2.1, V.2.2.2.2.2.2.2.2.2.2.2.2.2.2.2.2.2)]) C 0 6 rfl rfl (by show ¬ (_ ∨ _); decide) dX4_beginStop_76 rfl ?_
  obtain rfl := Option.some.inj hf
  exact g_ret C K dX4_beginStop_77 (Nat.le_of_ble_eq_true rfl) (Nat.le_of_ble_eq_true rfl) ⟨rfl, rfl⟩
def b_X4_countDisagreements_49 (N : Nat) (V : St) (K2 : (St × Int32) → Option (St)) (s : St × Int32 × Int32 × Int32) : Option (St) := (ix s.2.2.1 4 (K2 ((s.1.1, s.1.2.1, s.1.2.2.1, s.1.2.2.2.1, (upd s.1.2.2.2.2.1 (Int32.toNatClampNeg s.2.2.1) s.2.2.2), s.1.2.2.2.2.2.1, s.1.2.2.2.2.2.2.1, s.1.2.2.2.2.2.2.2.1, s.1.2.2.2.2.2.2.2.2.1, s.1.2.2.2.2.2.2.2.2.2.1, s.1.2.2.2.2.2.2.2.2.2.2.1, s.1.2.2.2.2.2.2.2.2.2.2.2.1, s.1.2.2.2.2.2.2.2.2.2.2.2.2.1, s.1.2.2.2.2.2.2.2.2.2.2.2.2.2.1, s.1.2.2.2.2.2.2.2.2.2.2.2.2.2.2.1, s.1.2.2.2.2.2.2.2.2.2.2.2.2.2.2.2.1, s.1.2.2.2.2.2.2.2.2.2.2.2.2.2.2.2.2.1, s.1.2.2.2.2.2.2.2.2.2.2.2.2.2.2.2.2.2), (s.2.1 + (1 : Int32)))))
def b_X4_countDisagreements_27 (N : Nat) (V : St) (K2 : (St × Int32) → Option (St)) (s : St × Int32 × Int32) : Option (St) := (if s.2.2 = 0 then b_X4_countDisagreements_49 N V K2 (s.1, s.2.1, s.2.1, (0 : Int32)) else (ix s.2.1 4 (b_X4_countDisagreements_49 N V K2 (s.1, s.2.1, s.2.1, ((s.1.2.2.2.2.1 (Int32.toNatClampNeg s.2.1)) + (1 : Int32))))))
def b_X4_countDisagreements_2 (N : Nat) (V : St) (K2 : (St × Int32) → Option (St)) (s : St × Int32) : Option (St) := (if (4 : Int32) ≤ s.2 then some s.1 else ((f_X4_complains s.1 s.2 (0 : Int32)).bind fun o5 => ((f_X4_complains s.1 s.2 (1 : Int32)).bind fun o7 => (if o5 = o7 then b_X4_countDisagreements_27 N V K2 (s.1, s.2, (0 : Int32)) else b_X4_countDisagreements_27 N V K2 (s.1, s.2, (1 : Int32))))))
def f_X4_countDisagreements (N : Nat) (V : St) : Option (St) := lp (b_X4_countDisagreements_2 N V) N (V, (0 : Int32))
abbrev rm_X4_countDisagreements : Room := { frames := 1, cells := 0, slots := 0, locals := 22 }
set_option maxRecDepth 100000 in
theorem k_X4_countDisagreements : CF yX4_countDisagreements cX4_countDisagreements 3 (Option.none : Option FieldType) 0 := ⟨mt_405, mp_14, mt_10, mt_406, ⟨rfl, by decide +kernel, by decide +kernel, by decide +kernel⟩⟩
set_option maxHeartbeats 4000000 in
set_option maxRecDepth 100000 in
theorem c_X4_countDisagreements {E : Ev} {a : Nat → Nat} {V : St} {N : Nat} {o : St} (hf : f_X4_countDisagreements N V = some o) : ∀ l, MG l yX4_countDisagreements cX4_countDisagreements 3 (Option.none : Option FieldType) rm_X4_countDisagreements E [.ref (a 0)] [sc E a V] (fun v Y => v = none ∧ Y = [sc E a o]) := by
  refine MG.mk (own := RX4) (lv0 := [(0, .ref (a 0))]) (by decide) rfl (Nat.le_of_ble_eq_true rfl) rfl (fun X C K I => ?_)
  have h49 : ∀ (K2 : (St × Int32) → Option (St)), (∀ s : St × Int32, K2 s = some o → G E X 3 [sc E a s.1] 0 0 [(0, .ref (a 0)), (1, .int s.2)] [] 2) → ∀ s : St × Int32 × Int32 × Int32, b_X4_countDisagreements_49 N V K2 s = some o → G E X 3 [sc E a s.1] 0 0 [(0, .ref (a 0)), (1, .int s.2.1)] [.int s.2.2.2, .int s.2.2.1, .ref (a 5)] 49 := by
    intro K2 hK2 s hf
    unfold b_X4_countDisagreements_49 at hf
    obtain ⟨i1, hf⟩ := ix_s hf
    refine g_iast (Y2 := [sc E a (s.1.1, s.1.2.1, s.1.2.2.1, s.1.2.2.2.1, (upd s.1.2.2.2.2.1 (Int32.toNatClampNeg s.2.2.1) s.2.2.2), s.1.2.2.2.2.2.1, s.1.2.2.2.2.2.2.1, s.1.2.2.2.2.2.2.2.1, s.1.2.2.2.2.2.2.2.2.1, s.1.2.2.2.2.2.2.2.2.2.1, s.1.2.2.2.2.2.2.2.2.2.2.1, s.1.2.2.2.2.2.2.2.2.2.2.2.1, s.1.2.2.2.2.2.2.2.2.2.2.2.2.1, s.1.2.2.2.2.2.2.2.2.2.2.2.2.2.1, s.1.2.2.2.2.2.2.2.2.2.2.2.2.2.2.1, s.1.2.2.2.2.2.2.2.2.2.2.2.2.2.2.2.1, s.1.2.2.2.2.2.2.2.2.2.2.2.2.2.2.2.2.1, s.1.2.2.2.2.2.2.2.2.2.2.2.2.2.2.2.2.2)]) C 0 5 rfl rfl i1 dX4_countDisagreements_49 rfl ?_
    refine g_iinc (v := (s.2.1 + (1 : Int32))) (lv2 := [(1, .int (s.2.1 + (1 : Int32))), (0, .ref (a 0))]) C dX4_countDisagreements_50 1 rfl (ii (by decide)) (by decide) rfl ?_
    refine g_goto (tgt := 2) C dX4_countDisagreements_53 (by decide) ?_
    refine g_sub (lv2 := [(0, .ref (a 0)), (1, .int (s.2.1 + (1 : Int32)))]) [1, 0] rfl ?_
    exact hK2 ((s.1.1, s.1.2.1, s.1.2.2.1, s.1.2.2.2.1, (upd s.1.2.2.2.2.1 (Int32.toNatClampNeg s.2.2.1) s.2.2.2), s.1.2.2.2.2.2.1, s.1.2.2.2.2.2.2.1, s.1.2.2.2.2.2.2.2.1, s.1.2.2.2.2.2.2.2.2.1, s.1.2.2.2.2.2.2.2.2.2.1, s.1.2.2.2.2.2.2.2.2.2.2.1, s.1.2.2.2.2.2.2.2.2.2.2.2.1, s.1.2.2.2.2.2.2.2.2.2.2.2.2.1, s.1.2.2.2.2.2.2.2.2.2.2.2.2.2.1, s.1.2.2.2.2.2.2.2.2.2.2.2.2.2.2.1, s.1.2.2.2.2.2.2.2.2.2.2.2.2.2.2.2.1, s.1.2.2.2.2.2.2.2.2.2.2.2.2.2.2.2.2.1, s.1.2.2.2.2.2.2.2.2.2.2.2.2.2.2.2.2.2), (s.2.1 + (1 : Int32))) hf
  have h27 : ∀ (K2 : (St × Int32) → Option (St)), (∀ s : St × Int32, K2 s = some o → G E X 3 [sc E a s.1] 0 0 [(0, .ref (a 0)), (1, .int s.2)] [] 2) → ∀ s : St × Int32 × Int32, b_X4_countDisagreements_27 N V K2 s = some o → G E X 3 [sc E a s.1] 0 0 [(0, .ref (a 0)), (1, .int s.2.1)] [.int s.2.2] 27 := by
    intro K2 hK2 s hf
    unfold b_X4_countDisagreements_27 at hf
    refine g_istore_n (lv2 := [(2, .int s.2.2), (0, .ref (a 0)), (1, .int s.2.1)]) C dX4_countDisagreements_27 rfl (by decide) rfl ?_
    refine g_aload_n C dX4_countDisagreements_28 rfl 1 rfl ?_
    refine g_get (Cl := RX4) (T := TX4) (N := 18) C mi_X4 0 rfl (List.mem_of_getElem? (i := 0) rfl) rfl 4 (by decide) mt_218 rfl rfl dX4_countDisagreements_29 ?_
    refine g_iload_n C dX4_countDisagreements_32 rfl 2 rfl ?_
    refine g_iload_n C dX4_countDisagreements_33 rfl 0 rfl ?_
    refine g_if_eq (tgt := 48) C dX4_countDisagreements_34 (by decide) (fun c2 => ?_) (fun c2 => ?_)
    · have hf := (f_if hf).1 c2
      refine g_iconst (v := (0 : Int32)) C dX4_countDisagreements_48 (by decide) ?_
      refine g_sub (lv2 := [(0, .ref (a 0)), (1, .int s.2.1)]) [1, 2] rfl ?_
      exact h49 K2 hK2 (s.1, s.2.1, s.2.1, (0 : Int32)) hf
    · have hf := (f_if hf).2 c2
      refine g_aload_n C dX4_countDisagreements_37 rfl 1 rfl ?_
      refine g_get (Cl := RX4) (T := TX4) (N := 18) C mi_X4 0 rfl (List.mem_of_getElem? (i := 0) rfl) rfl 4 (by decide) mt_218 rfl rfl dX4_countDisagreements_38 ?_
      refine g_iload_n C dX4_countDisagreements_41 rfl 2 rfl ?_
      obtain ⟨i3, hf⟩ := ix_s hf
      refine g_iald C 0 rfl (List.mem_of_getElem? (i := 5) rfl) i3 dX4_countDisagreements_42 ?_
      refine g_iconst (v := (1 : Int32)) C dX4_countDisagreements_43 (by decide) ?_
      refine g_iadd C dX4_countDisagreements_44 ?_
      refine g_goto (tgt := 49) C dX4_countDisagreements_45 (by decide) ?_
      refine g_sub (lv2 := [(0, .ref (a 0)), (1, .int s.2.1)]) [1, 2] rfl ?_
      exact h49 K2 hK2 (s.1, s.2.1, s.2.1, ((s.1.2.2.2.2.1 (Int32.toNatClampNeg s.2.1)) + (1 : Int32))) hf
  have h2 : ∀ (n : Nat) (s : St × Int32), lp (b_X4_countDisagreements_2 N V) n s = some o → G E X 3 [sc E a s.1] 0 0 [(0, .ref (a 0)), (1, .int s.2)] [] 2 := by
    refine lp_ind ?_
    intro K2 hK2 s hf
    unfold b_X4_countDisagreements_2 at hf
    refine g_iload_n C dX4_countDisagreements_2 rfl 1 rfl ?_
    refine g_iconst (v := (4 : Int32)) C dX4_countDisagreements_3 (by decide) ?_
    refine g_icmp_ge (tgt := 56) C dX4_countDisagreements_4 (by decide) (fun c4 => ?_) (fun c4 => ?_)
    · have hf := (f_if hf).1 c4
      obtain rfl := Option.some.inj hf
      exact g_ret C K dX4_countDisagreements_56 (Nat.le_of_ble_eq_true rfl) (Nat.le_of_ble_eq_true rfl) ⟨rfl, rfl⟩
    · have hf := (f_if hf).2 c4
      refine g_aload_n C dX4_countDisagreements_7 rfl 0 rfl ?_
      refine g_iload_n C dX4_countDisagreements_8 rfl 1 rfl ?_
      refine g_iconst (v := (0 : Int32)) C dX4_countDisagreements_9 (by decide) ?_
      obtain ⟨o5, hq6, hf⟩ := bind_s hf
      refine g_callV (As := [.int s.2, .int (0 : Int32)]) (rest := []) C k_X4_complains (fun l => c_X4_complains (E := E) (a := a) (V := s.1) hq6 l) mt_407 [0] rfl (by decide) ⟨_, _, _, _, List.mem_flatten.mpr ⟨_, List.mem_of_getElem? (i := 0) rfl, List.mem_of_getElem? (i := 0) rfl⟩, rfl⟩ rfl (Nat.le_of_ble_eq_true rfl) ⟨Nat.le_of_ble_eq_true rfl, Nat.le_of_ble_eq_true rfl, Nat.le_of_ble_eq_true rfl, Nat.le_of_ble_eq_true rfl⟩ dX4_countDisagreements_10 ?_
      rintro _ _ ⟨rfl, rfl⟩
      show G E X 3 [sc E a s.1] 0 0 [(0, .ref (a 0)), (1, .int s.2)] [.int o5] 13
      refine g_aload_n C dX4_countDisagreements_13 rfl 0 rfl ?_
      refine g_iload_n C dX4_countDisagreements_14 rfl 1 rfl ?_
      refine g_iconst (v := (1 : Int32)) C dX4_countDisagreements_15 (by decide) ?_
      obtain ⟨o7, hq8, hf⟩ := bind_s hf
      refine g_callV (As := [.int s.2, .int (1 : Int32)]) (rest := [.int o5]) C k_X4_complains (fun l => c_X4_complains (E := E) (a := a) (V := s.1) hq8 l) mt_407 [0] rfl (by decide) ⟨_, _, _, _, List.mem_flatten.mpr ⟨_, List.mem_of_getElem? (i := 0) rfl, List.mem_of_getElem? (i := 0) rfl⟩, rfl⟩ rfl (Nat.le_of_ble_eq_true rfl) ⟨Nat.le_of_ble_eq_true rfl, Nat.le_of_ble_eq_true rfl, Nat.le_of_ble_eq_true rfl, Nat.le_of_ble_eq_true rfl⟩ dX4_countDisagreements_16 ?_
      rintro _ _ ⟨rfl, rfl⟩
      show G E X 3 [sc E a s.1] 0 0 [(0, .ref (a 0)), (1, .int s.2)] [.int o7, .int o5] 19
      refine g_icmp_eq (tgt := 26) C dX4_countDisagreements_19 (by decide) (fun c9 => ?_) (fun c9 => ?_)
      · have hf := (f_if hf).1 c9
        refine g_iconst (v := (0 : Int32)) C dX4_countDisagreements_26 (by decide) ?_
        exact h27 K2 hK2 (s.1, s.2, (0 : Int32)) hf
      · have hf := (f_if hf).2 c9
        refine g_iconst (v := (1 : Int32)) C dX4_countDisagreements_22 (by decide) ?_
        refine g_goto (tgt := 27) C dX4_countDisagreements_23 (by decide) ?_
        exact h27 K2 hK2 (s.1, s.2, (1 : Int32)) hf
  unfold f_X4_countDisagreements at hf
  refine g_iconst (v := (0 : Int32)) C dX4_countDisagreements_0 (by decide) ?_
  refine g_istore_n (lv2 := [(1, .int (0 : Int32)), (0, .ref (a 0))]) C dX4_countDisagreements_1 rfl (by decide) rfl ?_
  refine g_sub (lv2 := [(0, .ref (a 0)), (1, .int (0 : Int32))]) [1, 0] rfl ?_
  exact h2 N (V, (0 : Int32)) hf
def b_X4_isInDoubt_2 (N : Nat) (V : St) (K2 : Int32 → Option (Int32)) (s : Int32) : Option (Int32) := (if (4 : Int32) ≤ s then some (0 : Int32) else (ix s 4 (if (V.2.2.2.2.1 (Int32.toNatClampNeg s)) ≤ (V.1 (Int32.toNatClampNeg (4 : Int32))) then K2 (s + (1 : Int32)) else some (1 : Int32))))
def f_X4_isInDoubt (N : Nat) (V : St) : Option (Int32) := lp (b_X4_isInDoubt_2 N V) N (0 : Int32)
abbrev rm_X4_isInDoubt : Room := { frames := 0, cells := 0, slots := 0, locals := 0 }
set_option maxRecDepth 100000 in
theorem k_X4_isInDoubt : CF yX4_isInDoubt cX4_isInDoubt 2 (some .boolean) 0 := ⟨mt_414, mp_16, mt_10, mt_415, ⟨rfl, by decide +kernel, by decide +kernel, by decide +kernel⟩⟩
set_option maxHeartbeats 4000000 in
set_option maxRecDepth 100000 in
theorem c_X4_isInDoubt {E : Ev} {a : Nat → Nat} {V : St} {N : Nat} {o : Int32} (hf : f_X4_isInDoubt N V = some o) : ∀ l, MG l yX4_isInDoubt cX4_isInDoubt 2 (some .boolean) rm_X4_isInDoubt E [.ref (a 0)] [sc E a V] (fun v Y => v = some (.int o) ∧ Y = [sc E a V]) := by
  refine MG.mk (own := RX4) (lv0 := [(0, .ref (a 0))]) (by decide) rfl (Nat.le_of_ble_eq_true rfl) rfl (fun X C K I => ?_)
  have h2 : ∀ (n : Nat) (s : Int32), lp (b_X4_isInDoubt_2 N V) n s = some o → G E X 2 [sc E a V] 0 0 [(0, .ref (a 0)), (1, .int s)] [] 2 := by
    refine lp_ind ?_
    intro K2 hK2 s hf
    unfold b_X4_isInDoubt_2 at hf
    refine g_iload_n C dX4_isInDoubt_2 rfl 1 rfl ?_
    refine g_iconst (v := (4 : Int32)) C dX4_isInDoubt_3 (by decide) ?_
    refine g_icmp_ge (tgt := 30) C dX4_isInDoubt_4 (by decide) (fun c1 => ?_) (fun c1 => ?_)
    · have hf := (f_if hf).1 c1
      refine g_iconst (v := (0 : Int32)) C dX4_isInDoubt_30 (by decide) ?_
      obtain rfl := Option.some.inj hf
      exact g_zret C K (by decide) dX4_isInDoubt_31 (Nat.le_of_ble_eq_true rfl) (Nat.le_of_ble_eq_true rfl) ⟨rfl, rfl⟩
    · have hf := (f_if hf).2 c1
      refine g_aload_n C dX4_isInDoubt_7 rfl 0 rfl ?_
      refine g_get (Cl := RX4) (T := TX4) (N := 18) C mi_X4 0 rfl (List.mem_of_getElem? (i := 0) rfl) rfl 4 (by decide) mt_218 rfl rfl dX4_isInDoubt_8 ?_
      refine g_iload_n C dX4_isInDoubt_11 rfl 1 rfl ?_
      obtain ⟨i2, hf⟩ := ix_s hf
      refine g_iald C 0 rfl (List.mem_of_getElem? (i := 5) rfl) i2 dX4_isInDoubt_12 ?_
      refine g_aload_n C dX4_isInDoubt_13 rfl 0 rfl ?_
      refine g_get (Cl := RX4) (T := TX4) (N := 18) C mi_X4 0 rfl (List.mem_of_getElem? (i := 0) rfl) rfl 0 (by decide) mt_210 rfl rfl dX4_isInDoubt_14 ?_
      refine g_iconst (v := (4 : Int32)) C dX4_isInDoubt_17 (by decide) ?_
      refine g_iald C 0 rfl (List.mem_of_getElem? (i := 1) rfl) (by show ¬ (_ ∨ _); decide) dX4_isInDoubt_18 ?_
      refine g_icmp_le (tgt := 24) C dX4_isInDoubt_19 (by decide) (fun c3 => ?_) (fun c3 => ?_)
      · have hf := (f_if hf).1 c3
        refine g_iinc (v := (s + (1 : Int32))) (lv2 := [(1, .int (s + (1 : Int32))), (0, .ref (a 0))]) C dX4_isInDoubt_24 1 rfl (ii (by decide)) (by decide) rfl ?_
        refine g_goto (tgt := 2) C dX4_isInDoubt_27 (by decide) ?_
        refine g_sub (lv2 := [(0, .ref (a 0)), (1, .int (s + (1 : Int32)))]) [1, 0] rfl ?_
        exact hK2 (s + (1 : Int32)) hf
      · have hf := (f_if hf).2 c3
        refine g_iconst (v := (1 : Int32)) C dX4_isInDoubt_22 (by decide) ?_
        obtain rfl := Option.some.inj hf
        exact g_zret C K (by decide) dX4_isInDoubt_23 (Nat.le_of_ble_eq_true rfl) (Nat.le_of_ble_eq_true rfl) ⟨rfl, rfl⟩
  unfold f_X4_isInDoubt at hf
  refine g_iconst (v := (0 : Int32)) C dX4_isInDoubt_0 (by decide) ?_
  refine g_istore_n (lv2 := [(1, .int (0 : Int32)), (0, .ref (a 0))]) C dX4_isInDoubt_1 rfl (by decide) rfl ?_
  refine g_sub (lv2 := [(0, .ref (a 0)), (1, .int (0 : Int32))]) [1, 0] rfl ?_
  exact h2 N (0 : Int32) hf
def b_X4_wantedSpeed_48 (N : Nat) (V : St) (p0 : Int32) (s : Unit) : Option (Int32) := some (V.1 (Int32.toNatClampNeg (1 : Int32)))
def b_X4_wantedSpeed_36 (N : Nat) (V : St) (p0 : Int32) (s : Int32) : Option (Int32) := (if s = 0 then ((f_X4_isInDoubt N V).bind fun o2 => (if o2 = 0 then (nz (if (1 : Int32) < (V.1 (Int32.toNatClampNeg (5 : Int32))) then (V.1 (Int32.toNatClampNeg (5 : Int32))) else (1 : Int32)) (some (if (V.1 (Int32.toNatClampNeg (1 : Int32))) < ((V.1 (Int32.toNatClampNeg (0 : Int32))) - (p0 / (if (1 : Int32) < (V.1 (Int32.toNatClampNeg (5 : Int32))) then (V.1 (Int32.toNatClampNeg (5 : Int32))) else (1 : Int32)))) then ((V.1 (Int32.toNatClampNeg (0 : Int32))) - (p0 / (if (1 : Int32) < (V.1 (Int32.toNatClampNeg (5 : Int32))) then (V.1 (Int32.toNatClampNeg (5 : Int32))) else (1 : Int32)))) else (V.1 (Int32.toNatClampNeg (1 : Int32)))))) else b_X4_wantedSpeed_48 N V p0 ())) else b_X4_wantedSpeed_48 N V p0 ())
def b_X4_wantedSpeed_35 (N : Nat) (V : St) (p0 : Int32) (s : Unit) : Option (Int32) := b_X4_wantedSpeed_36 N V p0 (0 : Int32)
def f_X4_wantedSpeed (N : Nat) (V : St) (p0 : Int32) : Option (Int32) := (if V.2.2.2.2.2.2.2.2.2.1 = 0 then (if V.2.2.2.2.2.2.2.1 = 0 then (if (V.2.2.2.2.2.2.2.2.2.2.2.2.2.2.2.1 + (1 : Int32)) ≤ (V.1 (Int32.toNatClampNeg (3 : Int32))) then b_X4_wantedSpeed_35 N V p0 () else b_X4_wantedSpeed_36 N V p0 (1 : Int32)) else b_X4_wantedSpeed_35 N V p0 ()) else some (0 : Int32))
abbrev rm_X4_wantedSpeed : Room := { frames := 1, cells := 0, slots := 0, locals := 21 }
set_option maxRecDepth 100000 in
theorem k_X4_wantedSpeed : CF yX4_wantedSpeed cX4_wantedSpeed 4 (some .int) 1 := ⟨mt_410, mp_15, mt_10, mt_411, ⟨rfl, by decide +kernel, by decide +kernel, by decide +kernel⟩⟩
set_option maxHeartbeats 4000000 in
set_option maxRecDepth 100000 in
theorem c_X4_wantedSpeed {E : Ev} {a : Nat → Nat} {V : St} {p0 : Int32} {N : Nat} {o : Int32} (hf : f_X4_wantedSpeed N V p0 = some o) : ∀ l, MG l yX4_wantedSpeed cX4_wantedSpeed 4 (some .int) rm_X4_wantedSpeed E [.ref (a 0), .int p0] [sc E a V] (fun v Y => v = some (.int o) ∧ Y = [sc E a V]) := by
  refine MG.mk (own := RX4) (lv0 := [(0, .ref (a 0)), (1, .int p0)]) (by decide) rfl (Nat.le_of_ble_eq_true rfl) rfl (fun X C K I => ?_)
  have h48 : ∀ s : Unit, b_X4_wantedSpeed_48 N V p0 s = some o → G E X 4 [sc E a V] 0 0 [(0, .ref (a 0))] [] 48 := by
    intro s hf
    unfold b_X4_wantedSpeed_48 at hf
    refine g_aload_n C dX4_wantedSpeed_48 rfl 0 rfl ?_
    refine g_get (Cl := RX4) (T := TX4) (N := 18) C mi_X4 0 rfl (List.mem_of_getElem? (i := 0) rfl) rfl 0 (by decide) mt_210 rfl rfl dX4_wantedSpeed_49 ?_
    refine g_iconst (v := (1 : Int32)) C dX4_wantedSpeed_52 (by decide) ?_
    refine g_iald C 0 rfl (List.mem_of_getElem? (i := 1) rfl) (by show ¬ (_ ∨ _); decide) dX4_wantedSpeed_53 ?_
    obtain rfl := Option.some.inj hf
    exact g_iret C K dX4_wantedSpeed_54 (Nat.le_of_ble_eq_true rfl) (Nat.le_of_ble_eq_true rfl) ⟨rfl, rfl⟩
  have h36 : ∀ s : Int32, b_X4_wantedSpeed_36 N V p0 s = some o → G E X 4 [sc E a V] 0 0 [(0, .ref (a 0)), (1, .int p0)] [.int s] 36 := by
    intro s hf
    unfold b_X4_wantedSpeed_36 at hf
    refine g_istore_n (lv2 := [(2, .int s), (0, .ref (a 0)), (1, .int p0)]) C dX4_wantedSpeed_36 rfl (by decide) rfl ?_
    refine g_iload_n C dX4_wantedSpeed_37 rfl 0 rfl ?_
    refine g_if_ne (tgt := 48) C dX4_wantedSpeed_38 (by decide) (fun c1 => ?_) (fun c1 => ?_)
    · have hf := (f_if hf).2 c1
      refine g_sub (lv2 := [(0, .ref (a 0))]) [1] rfl ?_
      exact h48 () hf
    · have hf := (f_if hf).1 c1
      refine g_aload_n C dX4_wantedSpeed_41 rfl 1 rfl ?_
      obtain ⟨o2, hq3, hf⟩ := bind_s hf
      refine g_callV (As := []) (rest := []) C k_X4_isInDoubt (fun l => c_X4_isInDoubt (E := E) (a := a) (V := V) hq3 l) mt_412 [0] rfl (by decide) ⟨_, _, _, _, List.mem_flatten.mpr ⟨_, List.mem_of_getElem? (i := 0) rfl, List.mem_of_getElem? (i := 0) rfl⟩, rfl⟩ rfl (Nat.le_of_ble_eq_true rfl) ⟨Nat.le_of_ble_eq_true rfl, Nat.le_of_ble_eq_true rfl, Nat.le_of_ble_eq_true rfl, Nat.le_of_ble_eq_true rfl⟩ dX4_wantedSpeed_42 ?_
      rintro _ _ ⟨rfl, rfl⟩
      show G E X 4 [sc E a V] 0 0 [(2, .int s), (0, .ref (a 0)), (1, .int p0)] [.int o2] 45
      refine g_if_eq (tgt := 55) C dX4_wantedSpeed_45 (by decide) (fun c4 => ?_) (fun c4 => ?_)
      · have hf := (f_if hf).1 c4
        refine g_iconst (v := (1 : Int32)) C dX4_wantedSpeed_55 (by decide) ?_
        refine g_aload_n C dX4_wantedSpeed_56 rfl 1 rfl ?_
        refine g_get (Cl := RX4) (T := TX4) (N := 18) C mi_X4 0 rfl (List.mem_of_getElem? (i := 0) rfl) rfl 0 (by decide) mt_210 rfl rfl dX4_wantedSpeed_57 ?_
        refine g_iconst (v := (5 : Int32)) C dX4_wantedSpeed_60 (by decide) ?_
        refine g_iald C 0 rfl (List.mem_of_getElem? (i := 1) rfl) (by show ¬ (_ ∨ _); decide) dX4_wantedSpeed_61 ?_
        refine g_mmax C mt_416 mt_181 mt_9 mt_182 (Nat.le_of_ble_eq_true rfl) (Nat.le_of_ble_eq_true rfl) (Nat.le_of_ble_eq_true rfl) (Nat.le_of_ble_eq_true rfl) dX4_wantedSpeed_62 ?_
        refine g_istore_n (lv2 := [(3, .int (if (1 : Int32) < (V.1 (Int32.toNatClampNeg (5 : Int32))) then (V.1 (Int32.toNatClampNeg (5 : Int32))) else (1 : Int32))), (2, .int s), (0, .ref (a 0)), (1, .int p0)]) C dX4_wantedSpeed_65 rfl (by decide) rfl ?_
        refine g_aload_n C dX4_wantedSpeed_66 rfl 2 rfl ?_
        refine g_get (Cl := RX4) (T := TX4) (N := 18) C mi_X4 0 rfl (List.mem_of_getElem? (i := 0) rfl) rfl 0 (by decide) mt_210 rfl rfl dX4_wantedSpeed_67 ?_
        refine g_iconst (v := (1 : Int32)) C dX4_wantedSpeed_70 (by decide) ?_
        refine g_iald C 0 rfl (List.mem_of_getElem? (i := 1) rfl) (by show ¬ (_ ∨ _); decide) dX4_wantedSpeed_71 ?_
        refine g_aload_n C dX4_wantedSpeed_72 rfl 2 rfl ?_
        refine g_get (Cl := RX4) (T := TX4) (N := 18) C mi_X4 0 rfl (List.mem_of_getElem? (i := 0) rfl) rfl 0 (by decide) mt_210 rfl rfl dX4_wantedSpeed_73 ?_
        refine g_iconst (v := (0 : Int32)) C dX4_wantedSpeed_76 (by decide) ?_
        refine g_iald C 0 rfl (List.mem_of_getElem? (i := 1) rfl) (by show ¬ (_ ∨ _); decide) dX4_wantedSpeed_77 ?_
        refine g_iload_n C dX4_wantedSpeed_78 rfl 3 rfl ?_
        refine g_iload_n C dX4_wantedSpeed_79 rfl 0 rfl ?_
        obtain ⟨z5, hf⟩ := nz_s hf
        refine g_idiv C dX4_wantedSpeed_80 z5 ?_
        refine g_isub C dX4_wantedSpeed_81 ?_
        refine g_mmax C mt_416 mt_181 mt_9 mt_182 (Nat.le_of_ble_eq_true rfl) (Nat.le_of_ble_eq_true rfl) (Nat.le_of_ble_eq_true rfl) (Nat.le_of_ble_eq_true rfl) dX4_wantedSpeed_82 ?_
        obtain rfl := Option.some.inj hf
        exact g_iret C K dX4_wantedSpeed_85 (Nat.le_of_ble_eq_true rfl) (Nat.le_of_ble_eq_true rfl) ⟨rfl, rfl⟩
      · have hf := (f_if hf).2 c4
        refine g_sub (lv2 := [(0, .ref (a 0))]) [1] rfl ?_
        exact h48 () hf
  have h35 : ∀ s : Unit, b_X4_wantedSpeed_35 N V p0 s = some o → G E X 4 [sc E a V] 0 0 [(0, .ref (a 0)), (1, .int p0)] [] 35 := by
    intro s hf
    unfold b_X4_wantedSpeed_35 at hf
    refine g_iconst (v := (0 : Int32)) C dX4_wantedSpeed_35 (by decide) ?_
    exact h36 (0 : Int32) hf
  unfold f_X4_wantedSpeed at hf
  refine g_aload_n C dX4_wantedSpeed_0 rfl 0 rfl ?_
  refine g_get (Cl := RX4) (T := TX4) (N := 18) C mi_X4 0 rfl (List.mem_of_getElem? (i := 0) rfl) rfl 9 (by decide) mt_228 rfl rfl dX4_wantedSpeed_1 ?_
  refine g_if_eq (tgt := 9) C dX4_wantedSpeed_4 (by decide) (fun c6 => ?_) (fun c6 => ?_)
  · have hf := (f_if hf).1 c6
    refine g_aload_n C dX4_wantedSpeed_9 rfl 0 rfl ?_
    refine g_get (Cl := RX4) (T := TX4) (N := 18) C mi_X4 0 rfl (List.mem_of_getElem? (i := 0) rfl) rfl 7 (by decide) mt_224 rfl rfl dX4_wantedSpeed_10 ?_
    refine g_if_ne (tgt := 35) C dX4_wantedSpeed_13 (by decide) (fun c7 => ?_) (fun c7 => ?_)
    · have hf := (f_if hf).2 c7
      exact h35 () hf
    · have hf := (f_if hf).1 c7
      refine g_aload_n C dX4_wantedSpeed_16 rfl 0 rfl ?_
      refine g_get (Cl := RX4) (T := TX4) (N := 18) C mi_X4 0 rfl (List.mem_of_getElem? (i := 0) rfl) rfl 15 (by decide) mt_238 rfl rfl dX4_wantedSpeed_17 ?_
      refine g_iconst (v := (1 : Int32)) C dX4_wantedSpeed_20 (by decide) ?_
      refine g_iadd C dX4_wantedSpeed_21 ?_
      refine g_aload_n C dX4_wantedSpeed_22 rfl 0 rfl ?_
      refine g_get (Cl := RX4) (T := TX4) (N := 18) C mi_X4 0 rfl (List.mem_of_getElem? (i := 0) rfl) rfl 0 (by decide) mt_210 rfl rfl dX4_wantedSpeed_23 ?_
      refine g_iconst (v := (3 : Int32)) C dX4_wantedSpeed_26 (by decide) ?_
      refine g_iald C 0 rfl (List.mem_of_getElem? (i := 1) rfl) (by show ¬ (_ ∨ _); decide) dX4_wantedSpeed_27 ?_
      refine g_icmp_le (tgt := 35) C dX4_wantedSpeed_28 (by decide) (fun c8 => ?_) (fun c8 => ?_)
      · have hf := (f_if hf).1 c8
        exact h35 () hf
      · have hf := (f_if hf).2 c8
        refine g_iconst (v := (1 : Int32)) C dX4_wantedSpeed_31 (by decide) ?_
        refine g_goto (tgt := 36) C dX4_wantedSpeed_32 (by decide) ?_
        exact h36 (1 : Int32) hf
  · have hf := (f_if hf).2 c6
    refine g_iconst (v := (0 : Int32)) C dX4_wantedSpeed_7 (by decide) ?_
    obtain rfl := Option.some.inj hf
    exact g_iret C K dX4_wantedSpeed_8 (Nat.le_of_ble_eq_true rfl) (Nat.le_of_ble_eq_true rfl) ⟨rfl, rfl⟩
def b_X4_changeSpeed_27 (V : St) (p0 : Int32) (p1 : Int32) (s : Int32) : Option (St) := some (V.1, V.2.1, V.2.2.1, V.2.2.2.1, V.2.2.2.2.1, V.2.2.2.2.2.1, V.2.2.2.2.2.2.1, V.2.2.2.2.2.2.2.1, V.2.2.2.2.2.2.2.2.1, V.2.2.2.2.2.2.2.2.2.1, V.2.2.2.2.2.2.2.2.2.2.1, (V.2.2.2.2.2.2.2.2.2.2.2.1 + (if (-s) < (if (p0 - V.2.2.2.2.2.2.2.2.2.2.2.1) < s then (p0 - V.2.2.2.2.2.2.2.2.2.2.2.1) else s) then (if (p0 - V.2.2.2.2.2.2.2.2.2.2.2.1) < s then (p0 - V.2.2.2.2.2.2.2.2.2.2.2.1) else s) else (-s))), V.2.2.2.2.2.2.2.2.2.2.2.2.1, V.2.2.2.2.2.2.2.2.2.2.2.2.2.1, V.2.2.2.2.2.2.2.2.2.2.2.2.2.2.1, V.2.2.2.2.2.2.2.2.2.2.2.2.2.2.2.1, V.2.2.2.2.2.2.2.2.2.2.2.2.2.2.2.2.1, (if V.2.2.2.2.2.2.2.2.2.2.2.2.2.2.2.2.2 < (if 0 ≤ (if (-s) < (if (p0 - V.2.2.2.2.2.2.2.2.2.2.2.1) < s then (p0 - V.2.2.2.2.2.2.2.2.2.2.2.1) else s) then (if (p0 - V.2.2.2.2.2.2.2.2.2.2.2.1) < s then (p0 - V.2.2.2.2.2.2.2.2.2.2.2.1) else s) else (-s)) then (if (-s) < (if (p0 - V.2.2.2.2.2.2.2.2.2.2.2.1) < s then (p0 - V.2.2.2.2.2.2.2.2.2.2.2.1) else s) then (if (p0 - V.2.2.2.2.2.2.2.2.2.2.2.1) < s then (p0 - V.2.2.2.2.2.2.2.2.2.2.2.1) else s) else (-s)) else 0 - (if (-s) < (if (p0 - V.2.2.2.2.2.2.2.2.2.2.2.1) < s then (p0 - V.2.2.2.2.2.2.2.2.2.2.2.1) else s) then (if (p0 - V.2.2.2.2.2.2.2.2.2.2.2.1) < s then (p0 - V.2.2.2.2.2.2.2.2.2.2.2.1) else s) else (-s))) then (if 0 ≤ (if (-s) < (if (p0 - V.2.2.2.2.2.2.2.2.2.2.2.1) < s then (p0 - V.2.2.2.2.2.2.2.2.2.2.2.1) else s) then (if (p0 - V.2.2.2.2.2.2.2.2.2.2.2.1) < s then (p0 - V.2.2.2.2.2.2.2.2.2.2.2.1) else s) else (-s)) then (if (-s) < (if (p0 - V.2.2.2.2.2.2.2.2.2.2.2.1) < s then (p0 - V.2.2.2.2.2.2.2.2.2.2.2.1) else s) then (if (p0 - V.2.2.2.2.2.2.2.2.2.2.2.1) < s then (p0 - V.2.2.2.2.2.2.2.2.2.2.2.1) else s) else (-s)) else 0 - (if (-s) < (if (p0 - V.2.2.2.2.2.2.2.2.2.2.2.1) < s then (p0 - V.2.2.2.2.2.2.2.2.2.2.2.1) else s) then (if (p0 - V.2.2.2.2.2.2.2.2.2.2.2.1) < s then (p0 - V.2.2.2.2.2.2.2.2.2.2.2.1) else s) else (-s))) else V.2.2.2.2.2.2.2.2.2.2.2.2.2.2.2.2.2))
def f_X4_changeSpeed (V : St) (p0 : Int32) (p1 : Int32) : Option (St) := (if p1 ≤ (V.1 (Int32.toNatClampNeg (6 : Int32))) then b_X4_changeSpeed_27 V p0 p1 (V.1 (Int32.toNatClampNeg (2 : Int32))) else b_X4_changeSpeed_27 V p0 p1 (((V.1 (Int32.toNatClampNeg (2 : Int32))) + (1 : Int32)) / (2 : Int32)))
abbrev rm_X4_changeSpeed : Room := { frames := 1, cells := 0, slots := 0, locals := 19 }
set_option maxRecDepth 100000 in
theorem k_X4_changeSpeed : CF yX4_changeSpeed cX4_changeSpeed 6 (Option.none : Option FieldType) 2 := ⟨mt_419, mp_17, mt_10, mt_420, ⟨rfl, by decide +kernel, by decide +kernel, by decide +kernel⟩⟩
set_option maxHeartbeats 4000000 in
set_option maxRecDepth 100000 in
theorem c_X4_changeSpeed {E : Ev} {a : Nat → Nat} {V : St} {p0 : Int32} {p1 : Int32} {o : St} (hf : f_X4_changeSpeed V p0 p1 = some o) : ∀ l, MG l yX4_changeSpeed cX4_changeSpeed 6 (Option.none : Option FieldType) rm_X4_changeSpeed E [.ref (a 0), .int p0, .int p1] [sc E a V] (fun v Y => v = none ∧ Y = [sc E a o]) := by
  refine MG.mk (own := RX4) (lv0 := [(0, .ref (a 0)), (1, .int p0), (2, .int p1)]) (by decide) rfl (Nat.le_of_ble_eq_true rfl) rfl (fun X C K I => ?_)
  have h27 : ∀ s : Int32, b_X4_changeSpeed_27 V p0 p1 s = some o → G E X 6 [sc E a V] 0 0 [(0, .ref (a 0)), (1, .int p0)] [.int s] 27 := by
    intro s hf
    unfold b_X4_changeSpeed_27 at hf
    refine g_istore (lv2 := [(4, .int s), (0, .ref (a 0)), (1, .int p0)]) C dX4_changeSpeed_27 (by decide) rfl ?_
    refine g_iload C dX4_changeSpeed_29 0 rfl ?_
    refine g_ineg C dX4_changeSpeed_31 ?_
    refine g_iload C dX4_changeSpeed_32 0 rfl ?_
    refine g_iload_n C dX4_changeSpeed_34 rfl 2 rfl ?_
    refine g_aload_n C dX4_changeSpeed_35 rfl 1 rfl ?_
    refine g_get (Cl := RX4) (T := TX4) (N := 18) C mi_X4 0 rfl (List.mem_of_getElem? (i := 0) rfl) rfl 11 (by decide) mt_232 rfl rfl dX4_changeSpeed_36 ?_
    refine g_isub C dX4_changeSpeed_39 ?_
    refine g_mmin C mt_421 mt_336 mt_9 mt_337 (Nat.le_of_ble_eq_true rfl) (Nat.le_of_ble_eq_true rfl) (Nat.le_of_ble_eq_true rfl) (Nat.le_of_ble_eq_true rfl) dX4_changeSpeed_40 ?_
    refine g_mmax C mt_416 mt_181 mt_9 mt_182 (Nat.le_of_ble_eq_true rfl) (Nat.le_of_ble_eq_true rfl) (Nat.le_of_ble_eq_true rfl) (Nat.le_of_ble_eq_true rfl) dX4_changeSpeed_43 ?_
    refine g_istore (lv2 := [(5, .int (if (-s) < (if (p0 - V.2.2.2.2.2.2.2.2.2.2.2.1) < s then (p0 - V.2.2.2.2.2.2.2.2.2.2.2.1) else s) then (if (p0 - V.2.2.2.2.2.2.2.2.2.2.2.1) < s then (p0 - V.2.2.2.2.2.2.2.2.2.2.2.1) else s) else (-s))), (4, .int s), (0, .ref (a 0)), (1, .int p0)]) C dX4_changeSpeed_46 (by decide) rfl ?_
    refine g_aload_n C dX4_changeSpeed_48 rfl 2 rfl ?_
    refine g_dup C dX4_changeSpeed_49 rfl ?_
    refine g_get (Cl := RX4) (T := TX4) (N := 18) C mi_X4 0 rfl (List.mem_of_getElem? (i := 0) rfl) rfl 11 (by decide) mt_232 rfl rfl dX4_changeSpeed_50 ?_
    refine g_iload C dX4_changeSpeed_53 0 rfl ?_
    refine g_iadd C dX4_changeSpeed_55 ?_
    refine g_put (Cl := RX4) (T := TX4) (N := 18) (Y2 := [sc E a (V.1, V.2.1, V.2.2.1, V.2.2.2.1, V.2.2.2.2.1, V.2.2.2.2.2.1, V.2.2.2.2.2.2.1, V.2.2.2.2.2.2.2.1, V.2.2.2.2.2.2.2.2.1, V.2.2.2.2.2.2.2.2.2.1, V.2.2.2.2.2.2.2.2.2.2.1, (V.2.2.2.2.2.2.2.2.2.2.2.1 + (if (-s) < (if (p0 - V.2.2.2.2.2.2.2.2.2.2.2.1) < s then (p0 - V.2.2.2.2.2.2.2.2.2.2.2.1) else s) then (if (p0 - V.2.2.2.2.2.2.2.2.2.2.2.1) < s then (p0 - V.2.2.2.2.2.2.2.2.2.2.2.1) else s) else (-s))), V.2.2.2.2.2.2.2.2.2.2.2.2.1, V.2.2.2.2.2.2.2.2.2.2.2.2.2.1, V.2.2.2.2.2.2.2.2.2.2.2.2.2.2.1, V.2.2.2.2.2.2.2.2.2.2.2.2.2.2.2.1, V.2.2.2.2.2.2.2.2.2.2.2.2.2.2.2.2.1, V.2.2.2.2.2.2.2.2.2.2.2.2.2.2.2.2.2)]) C mi_X4 tyX4_ok nmX4 0 0 rfl rfl rfl 11 (by decide) mt_232 rfl rfl rfl rfl rfl (Nat.le_of_ble_eq_true rfl) dX4_changeSpeed_56 rfl ?_
    refine g_aload_n C dX4_changeSpeed_59 rfl 2 rfl ?_
    refine g_aload_n C dX4_changeSpeed_60 rfl 2 rfl ?_
    refine g_get (Cl := RX4) (T := TX4) (N := 18) C mi_X4 0 rfl (List.mem_of_getElem? (i := 0) rfl) rfl 17 (by decide) mt_240 rfl rfl dX4_changeSpeed_61 ?_
    refine g_iload C dX4_changeSpeed_64 0 rfl ?_
    refine g_mabs C mt_422 mt_423 mt_9 mt_424 (Nat.le_of_ble_eq_true rfl) (Nat.le_of_ble_eq_true rfl) (Nat.le_of_ble_eq_true rfl) (Nat.le_of_ble_eq_true rfl) dX4_changeSpeed_66 ?_
    refine g_mmax C mt_416 mt_181 mt_9 mt_182 (Nat.le_of_ble_eq_true rfl) (Nat.le_of_ble_eq_true rfl) (Nat.le_of_ble_eq_true rfl) (Nat.le_of_ble_eq_true rfl) dX4_changeSpeed_69 ?_
    refine g_put (Cl := RX4) (T := TX4) (N := 18) (Y2 := [sc E a (V.1, V.2.1, V.2.2.1, V.2.2.2.1, V.2.2.2.2.1, V.2.2.2.2.2.1, V.2.2.2.2.2.2.1, V.2.2.2.2.2.2.2.1, V.2.2.2.2.2.2.2.2.1, V.2.2.2.2.2.2.2.2.2.1, V.2.2.2.2.2.2.2.2.2.2.1, (V.2.2.2.2.2.2.2.2.2.2.2.1 + (if (-s) < (if (p0 - V.2.2.2.2.2.2.2.2.2.2.2.1) < s then (p0 - V.2.2.2.2.2.2.2.2.2.2.2.1) else s) then (if (p0 - V.2.2.2.2.2.2.2.2.2.2.2.1) < s then (p0 - V.2.2.2.2.2.2.2.2.2.2.2.1) else s) else (-s))), V.2.2.2.2.2.2.2.2.2.2.2.2.1, V.2.2.2.2.2.2.2.2.2.2.2.2.2.1, V.2.2.2.2.2.2.2.2.2.2.2.2.2.2.1, V.2.2.2.2.2.2.2.2.2.2.2.2.2.2.2.1, V.2.2.2.2.2.2.2.2.2.2.2.2.2.2.2.2.1, (if V.2.2.2.2.2.2.2.2.2.2.2.2.2.2.2.2.2 < (if 0 ≤ (if (-s) < (if (p0 - V.2.2.2.2.2.2.2.2.2.2.2.1) < s then (p0 - V.2.2.2.2.2.2.2.2.2.2.2.1) else s) then (if (p0 - V.2.2.2.2.2.2.2.2.2.2.2.1) < s then (p0 - V.2.2.2.2.2.2.2.2.2.2.2.1) else s) else (-s)) then (if (-s) < (if (p0 - V.2.2.2.2.2.2.2.2.2.2.2.1) < s then (p0 - V.2.2.2.2.2.2.2.2.2.2.2.1) else s) then (if (p0 - V.2.2.2.2.2.2.2.2.2.2.2.1) < s then (p0 - V.2.2.2.2.2.2.2.2.2.2.2.1) else s) else (-s)) else 0 - (if (-s) < (if (p0 - V.2.2.2.2.2.2.2.2.2.2.2.1) < s then (p0 - V.2.2.2.2.2.2.2.2.2.2.2.1) else s) then (if (p0 - V.2.2.2.2.2.2.2.2.2.2.2.1) < s then (p0 - V.2.2.2.2.2.2.2.2.2.2.2.1) else s) else (-s))) then (if 0 ≤ (if (-s) < (if (p0 - V.2.2.2.2.2.2.2.2.2.2.2.1) < s then (p0 - V.2.2.2.2.2.2.2.2.2.2.2.1) else s) then (if (p0 - V.2.2.2.2.2.2.2.2.2.2.2.1) < s then (p0 - V.2.2.2.2.2.2.2.2.2.2.2.1) else s) else (-s)) then (if (-s) < (if (p0 - V.2.2.2.2.2.2.2.2.2.2.2.1) < s then (p0 - V.2.2.2.2.2.2.2.2.2.2.2.1) else s) then (if (p0 - V.2.2.2.2.2.2.2.2.2.2.2.1) < s then (p0 - V.2.2.2.2.2.2.2.2.2.2.2.1) else s) else (-s)) else 0 - (if (-s) < (if (p0 - V.2.2.2.2.2.2.2.2.2.2.2.1) < s then (p0 - V.2.2.2.2.2.2.2.2.2.2.2.1) else s) then (if (p0 - V.2.2.2.2.2.2.2.2.2.2.2.1) < s then (p0 - V.2.2.2.2.2.2.2.2.2.2.2.1) else s) else (-s))) else V.2.2.2.2.2.2.2.2.2.2.2.2.2.2.2.2.2))]) C mi_X4 tyX4_ok nmX4 0 0 rfl rfl rfl 17 (by decide) mt_240 rfl rfl rfl rfl rfl (Nat.le_of_ble_eq_true rfl) dX4_changeSpeed_72 rfl ?_
    obtain rfl := Option.some.inj hf
    exact g_ret C K dX4_changeSpeed_75 (Nat.le_of_ble_eq_true rfl) (Nat.le_of_ble_eq_true rfl) ⟨rfl, rfl⟩
  unfold f_X4_changeSpeed at hf
  refine g_aload_n C dX4_changeSpeed_0 rfl 0 rfl ?_
  refine g_get (Cl := RX4) (T := TX4) (N := 18) C mi_X4 0 rfl (List.mem_of_getElem? (i := 0) rfl) rfl 0 (by decide) mt_210 rfl rfl dX4_changeSpeed_1 ?_
  refine g_iconst (v := (2 : Int32)) C dX4_changeSpeed_4 (by decide) ?_
  refine g_iald C 0 rfl (List.mem_of_getElem? (i := 1) rfl) (by show ¬ (_ ∨ _); decide) dX4_changeSpeed_5 ?_
  refine g_istore_n (lv2 := [(3, .int (V.1 (Int32.toNatClampNeg (2 : Int32)))), (0, .ref (a 0)), (1, .int p0), (2, .int p1)]) C dX4_changeSpeed_6 rfl (by decide) rfl ?_
  refine g_iload_n C dX4_changeSpeed_7 rfl 3 rfl ?_
  refine g_aload_n C dX4_changeSpeed_8 rfl 1 rfl ?_
  refine g_get (Cl := RX4) (T := TX4) (N := 18) C mi_X4 0 rfl (List.mem_of_getElem? (i := 0) rfl) rfl 0 (by decide) mt_210 rfl rfl dX4_changeSpeed_9 ?_
  refine g_bipush (v := (6 : Int32)) C dX4_changeSpeed_12 (by decide) ?_
  refine g_iald C 0 rfl (List.mem_of_getElem? (i := 1) rfl) (by show ¬ (_ ∨ _); decide) dX4_changeSpeed_14 ?_
  refine g_icmp_le (tgt := 26) C dX4_changeSpeed_15 (by decide) (fun c1 => ?_) (fun c1 => ?_)
  · have hf := (f_if hf).1 c1
    refine g_iload_n C dX4_changeSpeed_26 rfl 0 rfl ?_
    refine g_sub (lv2 := [(0, .ref (a 0)), (1, .int p0)]) [1, 2] rfl ?_
    exact h27 (V.1 (Int32.toNatClampNeg (2 : Int32))) hf
  · have hf := (f_if hf).2 c1
    refine g_iload_n C dX4_changeSpeed_18 rfl 0 rfl ?_
    refine g_iconst (v := (1 : Int32)) C dX4_changeSpeed_19 (by decide) ?_
    refine g_iadd C dX4_changeSpeed_20 ?_
    refine g_iconst (v := (2 : Int32)) C dX4_changeSpeed_21 (by decide) ?_
    refine g_idiv C dX4_changeSpeed_22 (by decide) ?_
    refine g_goto (tgt := 27) C dX4_changeSpeed_23 (by decide) ?_
    refine g_sub (lv2 := [(0, .ref (a 0)), (1, .int p0)]) [1, 2] rfl ?_
    exact h27 (((V.1 (Int32.toNatClampNeg (2 : Int32))) + (1 : Int32)) / (2 : Int32)) hf
def b_X4_carryPeople_105 (N : Nat) (V : St) (s : St × Int32) : Option (St) := some (s.1.1, s.1.2.1, s.1.2.2.1, s.1.2.2.2.1, s.1.2.2.2.2.1, s.1.2.2.2.2.2.1, s.1.2.2.2.2.2.2.1, s.2, s.1.2.2.2.2.2.2.2.2.1, s.1.2.2.2.2.2.2.2.2.2.1, s.1.2.2.2.2.2.2.2.2.2.2.1, s.1.2.2.2.2.2.2.2.2.2.2.2.1, s.1.2.2.2.2.2.2.2.2.2.2.2.2.1, s.1.2.2.2.2.2.2.2.2.2.2.2.2.2.1, s.1.2.2.2.2.2.2.2.2.2.2.2.2.2.2.1, s.1.2.2.2.2.2.2.2.2.2.2.2.2.2.2.2.1, (s.1.2.2.2.2.2.2.2.2.2.2.2.2.2.2.2.2.1 + s.1.2.2.2.2.2.2.2.2.2.2.2.1), s.1.2.2.2.2.2.2.2.2.2.2.2.2.2.2.2.2.2)
def b_X4_carryPeople_99 (N : Nat) (V : St) (K4 : (St × Int32 × Int32) → Option (St)) (s : St × Int32 × Int32) : Option (St) := K4 (s.1, s.2.1, (s.2.2 + (1 : Int32)))
def b_X4_carryPeople_4 (N : Nat) (V : St) (K4 : (St × Int32 × Int32) → Option (St)) (s : St × Int32 × Int32) : Option (St) := (if s.1.2.2.2.2.2.2.2.1 ≤ s.2.2 then b_X4_carryPeople_105 N V (s.1, s.2.1) else (if (20 : Int32) ≤ s.2.2 then b_X4_carryPeople_105 N V (s.1, s.2.1) else (ix s.2.2 20 (if ((s.1.2.1 (Int32.toNatClampNeg s.2.2)) + s.1.2.2.2.2.2.2.2.2.2.2.2.1) < (1000 : Int32) then (ix s.2.1 20 (ix s.2.2 20 (ix s.2.1 20 (ix s.2.2 20 (ix s.2.1 20 (b_X4_carryPeople_99 N V K4 ((s.1.1, (upd s.1.2.1 (Int32.toNatClampNeg s.2.1) ((s.1.2.1 (Int32.toNatClampNeg s.2.2)) + s.1.2.2.2.2.2.2.2.2.2.2.2.1)), (upd s.1.2.2.1 (Int32.toNatClampNeg s.2.1) (s.1.2.2.1 (Int32.toNatClampNeg s.2.2))), (upd s.1.2.2.2.1 (Int32.toNatClampNeg s.2.1) (s.1.2.2.2.1 (Int32.toNatClampNeg s.2.2))), s.1.2.2.2.2.1, s.1.2.2.2.2.2.1, s.1.2.2.2.2.2.2.1, s.1.2.2.2.2.2.2.2.1, s.1.2.2.2.2.2.2.2.2.1, s.1.2.2.2.2.2.2.2.2.2.1, s.1.2.2.2.2.2.2.2.2.2.2.1, s.1.2.2.2.2.2.2.2.2.2.2.2.1, s.1.2.2.2.2.2.2.2.2.2.2.2.2.1, s.1.2.2.2.2.2.2.2.2.2.2.2.2.2.1, s.1.2.2.2.2.2.2.2.2.2.2.2.2.2.2.1, s.1.2.2.2.2.2.2.2.2.2.2.2.2.2.2.2.1, s.1.2.2.2.2.2.2.2.2.2.2.2.2.2.2.2.2.1, s.1.2.2.2.2.2.2.2.2.2.2.2.2.2.2.2.2.2), (s.2.1 + (1 : Int32)), s.2.2))))))) else (ix s.2.2 20 (b_X4_carryPeople_99 N V K4 ((s.1.1, s.1.2.1, s.1.2.2.1, s.1.2.2.2.1, s.1.2.2.2.2.1, s.1.2.2.2.2.2.1, s.1.2.2.2.2.2.2.1, s.1.2.2.2.2.2.2.2.1, s.1.2.2.2.2.2.2.2.2.1, s.1.2.2.2.2.2.2.2.2.2.1, s.1.2.2.2.2.2.2.2.2.2.2.1, s.1.2.2.2.2.2.2.2.2.2.2.2.1, (s.1.2.2.2.2.2.2.2.2.2.2.2.2.1 + (1 : Int32)), (s.1.2.2.2.2.2.2.2.2.2.2.2.2.2.1 + (s.1.2.2.1 (Int32.toNatClampNeg s.2.2))), s.1.2.2.2.2.2.2.2.2.2.2.2.2.2.2.1, s.1.2.2.2.2.2.2.2.2.2.2.2.2.2.2.2.1, s.1.2.2.2.2.2.2.2.2.2.2.2.2.2.2.2.2.1, s.1.2.2.2.2.2.2.2.2.2.2.2.2.2.2.2.2.2), s.2.1, s.2.2)))))))
def f_X4_carryPeople (N : Nat) (V : St) : Option (St) := lp (b_X4_carryPeople_4 N V) N (V, (0 : Int32), (0 : Int32))
abbrev rm_X4_carryPeople : Room := { frames := 0, cells := 0, slots := 0, locals := 0 }
set_option maxRecDepth 100000 in
theorem k_X4_carryPeople : CF yX4_carryPeople cX4_carryPeople 4 (Option.none : Option FieldType) 0 := ⟨mt_427, mp_18, mt_10, mt_428, ⟨rfl, by decide +kernel, by decide +kernel, by decide +kernel⟩⟩
set_option maxHeartbeats 4000000 in
set_option maxRecDepth 100000 in
theorem c_X4_carryPeople {E : Ev} {a : Nat → Nat} {V : St} {N : Nat} {o : St} (hf : f_X4_carryPeople N V = some o) : ∀ l, MG l yX4_carryPeople cX4_carryPeople 4 (Option.none : Option FieldType) rm_X4_carryPeople E [.ref (a 0)] [sc E a V] (fun v Y => v = none ∧ Y = [sc E a o]) := by
  refine MG.mk (own := RX4) (lv0 := [(0, .ref (a 0))]) (by decide) rfl (Nat.le_of_ble_eq_true rfl) rfl (fun X C K I => ?_)
  have h105 : ∀ s : St × Int32, b_X4_carryPeople_105 N V s = some o → G E X 4 [sc E a s.1] 0 0 [(0, .ref (a 0)), (1, .int s.2)] [] 105 := by
    intro s hf
    unfold b_X4_carryPeople_105 at hf
    refine g_aload_n C dX4_carryPeople_105 rfl 0 rfl ?_
    refine g_iload_n C dX4_carryPeople_106 rfl 1 rfl ?_
    refine g_put (Cl := RX4) (T := TX4) (N := 18) (Y2 := [sc E a (s.1.1, s.1.2.1, s.1.2.2.1, s.1.2.2.2.1, s.1.2.2.2.2.1, s.1.2.2.2.2.2.1, s.1.2.2.2.2.2.2.1, s.2, s.1.2.2.2.2.2.2.2.2.1, s.1.2.2.2.2.2.2.2.2.2.1, s.1.2.2.2.2.2.2.2.2.2.2.1, s.1.2.2.2.2.2.2.2.2.2.2.2.1, s.1.2.2.2.2.2.2.2.2.2.2.2.2.1, s.1.2.2.2.2.2.2.2.2.2.2.2.2.2.1, s.1.2.2.2.2.2.2.2.2.2.2.2.2.2.2.1, s.1.2.2.2.2.2.2.2.2.2.2.2.2.2.2.2.1, s.1.2.2.2.2.2.2.2.2.2.2.2.2.2.2.2.2.1, s.1.2.2.2.2.2.2.2.2.2.2.2.2.2.2.2.2.2)]) C mi_X4 tyX4_ok nmX4 0 0 rfl rfl rfl 7 (by decide) mt_224 rfl rfl rfl rfl rfl (Nat.le_of_ble_eq_true rfl) dX4_carryPeople_107 rfl ?_
    refine g_aload_n C dX4_carryPeople_110 rfl 0 rfl ?_
    refine g_dup C dX4_carryPeople_111 rfl ?_
    refine g_get (Cl := RX4) (T := TX4) (N := 18) C mi_X4 0 rfl (List.mem_of_getElem? (i := 0) rfl) rfl 16 (by decide) mt_239 rfl rfl dX4_carryPeople_112 ?_
    refine g_aload_n C dX4_carryPeople_115 rfl 0 rfl ?_
    refine g_get (Cl := RX4) (T := TX4) (N := 18) C mi_X4 0 rfl (List.mem_of_getElem? (i := 0) rfl) rfl 11 (by decide) mt_232 rfl rfl dX4_carryPeople_116 ?_
    refine g_iadd C dX4_carryPeople_119 ?_
    refine g_put (Cl := RX4) (T := TX4) (N := 18) (Y2 := [sc E a (s.1.1, s.1.2.1, s.1.2.2.1, s.1.2.2.2.1, s.1.2.2.2.2.1, s.1.2.2.2.2.2.1, s.1.2.2.2.2.2.2.1, s.2, s.1.2.2.2.2.2.2.2.2.1, s.1.2.2.2.2.2.2.2.2.2.1, s.1.2.2.2.2.2.2.2.2.2.2.1, s.1.2.2.2.2.2.2.2.2.2.2.2.1, s.1.2.2.2.2.2.2.2.2.2.2.2.2.1, s.1.2.2.2.2.2.2.2.2.2.2.2.2.2.1, s.1.2.2.2.2.2.2.2.2.2.2.2.2.2.2.1, s.1.2.2.2.2.2.2.2.2.2.2.2.2.2.2.2.1, (s.1.2.2.2.2.2.2.2.2.2.2.2.2.2.2.2.2.1 + s.1.2.2.2.2.2.2.2.2.2.2.2.1), s.1.2.2.2.2.2.2.2.2.2.2.2.2.2.2.2.2.2)]) C mi_X4 tyX4_ok nmX4 0 0 rfl rfl rfl 16 (by decide) mt_239 rfl rfl rfl rfl rfl (Nat.le_of_ble_eq_true rfl) dX4_carryPeople_120 rfl ?_
    obtain rfl := Option.some.inj hf
    exact g_ret C K dX4_carryPeople_123 (Nat.le_of_ble_eq_true rfl) (Nat.le_of_ble_eq_true rfl) ⟨rfl, rfl⟩
  have h99 : ∀ (K4 : (St × Int32 × Int32) → Option (St)), (∀ s : St × Int32 × Int32, K4 s = some o → G E X 4 [sc E a s.1] 0 0 [(0, .ref (a 0)), (1, .int s.2.1), (2, .int s.2.2)] [] 4) → ∀ s : St × Int32 × Int32, b_X4_carryPeople_99 N V K4 s = some o → G E X 4 [sc E a s.1] 0 0 [(0, .ref (a 0)), (1, .int s.2.1), (2, .int s.2.2)] [] 99 := by
    intro K4 hK4 s hf
    unfold b_X4_carryPeople_99 at hf
    refine g_iinc (v := (s.2.2 + (1 : Int32))) (lv2 := [(2, .int (s.2.2 + (1 : Int32))), (0, .ref (a 0)), (1, .int s.2.1)]) C dX4_carryPeople_99 2 rfl (ii (by decide)) (by decide) rfl ?_
    refine g_goto (tgt := 4) C dX4_carryPeople_102 (by decide) ?_
    refine g_sub (lv2 := [(0, .ref (a 0)), (1, .int s.2.1), (2, .int (s.2.2 + (1 : Int32)))]) [1, 2, 0] rfl ?_
    exact hK4 (s.1, s.2.1, (s.2.2 + (1 : Int32))) hf
  have h4 : ∀ (n : Nat) (s : St × Int32 × Int32), lp (b_X4_carryPeople_4 N V) n s = some o → G E X 4 [sc E a s.1] 0 0 [(0, .ref (a 0)), (1, .int s.2.1), (2, .int s.2.2)] [] 4 := by
    refine lp_ind ?_
    intro K4 hK4 s hf
    unfold b_X4_carryPeople_4 at hf
    refine g_iload_n C dX4_carryPeople_4 rfl 2 rfl ?_
    refine g_aload_n C dX4_carryPeople_5 rfl 0 rfl ?_
    refine g_get (Cl := RX4) (T := TX4) (N := 18) C mi_X4 0 rfl (List.mem_of_getElem? (i := 0) rfl) rfl 7 (by decide) mt_224 rfl rfl dX4_carryPeople_6 ?_
    refine g_icmp_ge (tgt := 105) C dX4_carryPeople_9 (by decide) (fun c1 => ?_) (fun c1 => ?_)
    · have hf := (f_if hf).1 c1
      refine g_sub (lv2 := [(0, .ref (a 0)), (1, .int s.2.1)]) [0, 1] rfl ?_
      exact h105 (s.1, s.2.1) hf
    · have hf := (f_if hf).2 c1
      refine g_iload_n C dX4_carryPeople_12 rfl 2 rfl ?_
      refine g_bipush (v := (20 : Int32)) C dX4_carryPeople_13 (by decide) ?_
      refine g_icmp_ge (tgt := 105) C dX4_carryPeople_15 (by decide) (fun c2 => ?_) (fun c2 => ?_)
      · have hf := (f_if hf).1 c2
        refine g_sub (lv2 := [(0, .ref (a 0)), (1, .int s.2.1)]) [0, 1] rfl ?_
        exact h105 (s.1, s.2.1) hf
      · have hf := (f_if hf).2 c2
        refine g_aload_n C dX4_carryPeople_18 rfl 0 rfl ?_
        refine g_get (Cl := RX4) (T := TX4) (N := 18) C mi_X4 0 rfl (List.mem_of_getElem? (i := 0) rfl) rfl 1 (by decide) mt_212 rfl rfl dX4_carryPeople_19 ?_
        refine g_iload_n C dX4_carryPeople_22 rfl 2 rfl ?_
        obtain ⟨i3, hf⟩ := ix_s hf
        refine g_iald C 0 rfl (List.mem_of_getElem? (i := 2) rfl) i3 dX4_carryPeople_23 ?_
        refine g_aload_n C dX4_carryPeople_24 rfl 0 rfl ?_
        refine g_get (Cl := RX4) (T := TX4) (N := 18) C mi_X4 0 rfl (List.mem_of_getElem? (i := 0) rfl) rfl 11 (by decide) mt_232 rfl rfl dX4_carryPeople_25 ?_
        refine g_iadd C dX4_carryPeople_28 ?_
        refine g_istore_n (lv2 := [(3, .int ((s.1.2.1 (Int32.toNatClampNeg s.2.2)) + s.1.2.2.2.2.2.2.2.2.2.2.2.1)), (0, .ref (a 0)), (1, .int s.2.1), (2, .int s.2.2)]) C dX4_carryPeople_29 rfl (by decide) rfl ?_
        refine g_iload_n C dX4_carryPeople_30 rfl 0 rfl ?_
        refine g_sipush (v := (1000 : Int32)) C dX4_carryPeople_31 (by decide) ?_
        refine g_icmp_lt (tgt := 65) C dX4_carryPeople_34 (by decide) (fun c4 => ?_) (fun c4 => ?_)
        · have hf := (f_if hf).1 c4
          refine g_aload_n C dX4_carryPeople_65 rfl 1 rfl ?_
          refine g_get (Cl := RX4) (T := TX4) (N := 18) C mi_X4 0 rfl (List.mem_of_getElem? (i := 0) rfl) rfl 1 (by decide) mt_212 rfl rfl dX4_carryPeople_66 ?_
          refine g_iload_n C dX4_carryPeople_69 rfl 2 rfl ?_
          refine g_iload_n C dX4_carryPeople_70 rfl 0 rfl ?_
          obtain ⟨i5, hf⟩ := ix_s hf
          refine g_iast (Y2 := [sc E a (s.1.1, (upd s.1.2.1 (Int32.toNatClampNeg s.2.1) ((s.1.2.1 (Int32.toNatClampNeg s.2.2)) + s.1.2.2.2.2.2.2.2.2.2.2.2.1)), s.1.2.2.1, s.1.2.2.2.1, s.1.2.2.2.2.1, s.1.2.2.2.2.2.1, s.1.2.2.2.2.2.2.1, s.1.2.2.2.2.2.2.2.1, s.1.2.2.2.2.2.2.2.2.1, s.1.2.2.2.2.2.2.2.2.2.1, s.1.2.2.2.2.2.2.2.2.2.2.1, s.1.2.2.2.2.2.2.2.2.2.2.2.1, s.1.2.2.2.2.2.2.2.2.2.2.2.2.1, s.1.2.2.2.2.2.2.2.2.2.2.2.2.2.1, s.1.2.2.2.2.2.2.2.2.2.2.2.2.2.2.1, s.1.2.2.2.2.2.2.2.2.2.2.2.2.2.2.2.1, s.1.2.2.2.2.2.2.2.2.2.2.2.2.2.2.2.2.1, s.1.2.2.2.2.2.2.2.2.2.2.2.2.2.2.2.2.2)]) C 0 2 rfl rfl i5 dX4_carryPeople_71 rfl ?_
          refine g_aload_n C dX4_carryPeople_72 rfl 1 rfl ?_
          refine g_get (Cl := RX4) (T := TX4) (N := 18) C mi_X4 0 rfl (List.mem_of_getElem? (i := 0) rfl) rfl 2 (by decide) mt_214 rfl rfl dX4_carryPeople_73 ?_
          refine g_iload_n C dX4_carryPeople_76 rfl 2 rfl ?_
          refine g_aload_n C dX4_carryPeople_77 rfl 1 rfl ?_
          refine g_get (Cl := RX4) (T := TX4) (N := 18) C mi_X4 0 rfl (List.mem_of_getElem? (i := 0) rfl) rfl 2 (by decide) mt_214 rfl rfl dX4_carryPeople_78 ?_
          refine g_iload_n C dX4_carryPeople_81 rfl 3 rfl ?_
          obtain ⟨i6, hf⟩ := ix_s hf
          refine g_iald C 0 rfl (List.mem_of_getElem? (i := 3) rfl) i6 dX4_carryPeople_82 ?_
          obtain ⟨i7, hf⟩ := ix_s hf
          refine g_iast (Y2 := [sc E a (s.1.1, (upd s.1.2.1 (Int32.toNatClampNeg s.2.1) ((s.1.2.1 (Int32.toNatClampNeg s.2.2)) + s.1.2.2.2.2.2.2.2.2.2.2.2.1)), (upd s.1.2.2.1 (Int32.toNatClampNeg s.2.1) (s.1.2.2.1 (Int32.toNatClampNeg s.2.2))), s.1.2.2.2.1, s.1.2.2.2.2.1, s.1.2.2.2.2.2.1, s.1.2.2.2.2.2.2.1, s.1.2.2.2.2.2.2.2.1, s.1.2.2.2.2.2.2.2.2.1, s.1.2.2.2.2.2.2.2.2.2.1, s.1.2.2.2.2.2.2.2.2.2.2.1, s.1.2.2.2.2.2.2.2.2.2.2.2.1, s.1.2.2.2.2.2.2.2.2.2.2.2.2.1, s.1.2.2.2.2.2.2.2.2.2.2.2.2.2.1, s.1.2.2.2.2.2.2.2.2.2.2.2.2.2.2.1, s.1.2.2.2.2.2.2.2.2.2.2.2.2.2.2.2.1, s.1.2.2.2.2.2.2.2.2.2.2.2.2.2.2.2.2.1, s.1.2.2.2.2.2.2.2.2.2.2.2.2.2.2.2.2.2)]) C 0 3 rfl rfl i7 dX4_carryPeople_83 rfl ?_
          refine g_aload_n C dX4_carryPeople_84 rfl 1 rfl ?_
          refine g_get (Cl := RX4) (T := TX4) (N := 18) C mi_X4 0 rfl (List.mem_of_getElem? (i := 0) rfl) rfl 3 (by decide) mt_216 rfl rfl dX4_carryPeople_85 ?_
          refine g_iload_n C dX4_carryPeople_88 rfl 2 rfl ?_
          refine g_aload_n C dX4_carryPeople_89 rfl 1 rfl ?_
          refine g_get (Cl := RX4) (T := TX4) (N := 18) C mi_X4 0 rfl (List.mem_of_getElem? (i := 0) rfl) rfl 3 (by decide) mt_216 rfl rfl dX4_carryPeople_90 ?_
          refine g_iload_n C dX4_carryPeople_93 rfl 3 rfl ?_
          obtain ⟨i8, hf⟩ := ix_s hf
          refine g_iald C 0 rfl (List.mem_of_getElem? (i := 4) rfl) i8 dX4_carryPeople_94 ?_
          obtain ⟨i9, hf⟩ := ix_s hf
          refine g_iast (Y2 := [sc E a (s.1.1, (upd s.1.2.1 (Int32.toNatClampNeg s.2.1) ((s.1.2.1 (Int32.toNatClampNeg s.2.2)) + s.1.2.2.2.2.2.2.2.2.2.2.2.1)), (upd s.1.2.2.1 (Int32.toNatClampNeg s.2.1) (s.1.2.2.1 (Int32.toNatClampNeg s.2.2))), (upd s.1.2.2.2.1 (Int32.toNatClampNeg s.2.1) (s.1.2.2.2.1 (Int32.toNatClampNeg s.2.2))), s.1.2.2.2.2.1, s.1.2.2.2.2.2.1, s.1.2.2.2.2.2.2.1, s.1.2.2.2.2.2.2.2.1, s.1.2.2.2.2.2.2.2.2.1, s.1.2.2.2.2.2.2.2.2.2.1, s.1.2.2.2.2.2.2.2.2.2.2.1, s.1.2.2.2.2.2.2.2.2.2.2.2.1, s.1.2.2.2.2.2.2.2.2.2.2.2.2.1, s.1.2.2.2.2.2.2.2.2.2.2.2.2.2.1, s.1.2.2.2.2.2.2.2.2.2.2.2.2.2.2.1, s.1.2.2.2.2.2.2.2.2.2.2.2.2.2.2.2.1, s.1.2.2.2.2.2.2.2.2.2.2.2.2.2.2.2.2.1, s.1.2.2.2.2.2.2.2.2.2.2.2.2.2.2.2.2.2)]) C 0 4 rfl rfl i9 dX4_carryPeople_95 rfl ?_
          refine g_iinc (v := (s.2.1 + (1 : Int32))) (lv2 := [(1, .int (s.2.1 + (1 : Int32))), (3, .int ((s.1.2.1 (Int32.toNatClampNeg s.2.2)) + s.1.2.2.2.2.2.2.2.2.2.2.2.1)), (0, .ref (a 0)), (2, .int s.2.2)]) C dX4_carryPeople_96 2 rfl (ii (by decide)) (by decide) rfl ?_
          refine g_sub (lv2 := [(0, .ref (a 0)), (1, .int (s.2.1 + (1 : Int32))), (2, .int s.2.2)]) [2, 0, 3] rfl ?_
          exact h99 K4 hK4 ((s.1.1, (upd s.1.2.1 (Int32.toNatClampNeg s.2.1) ((s.1.2.1 (Int32.toNatClampNeg s.2.2)) + s.1.2.2.2.2.2.2.2.2.2.2.2.1)), (upd s.1.2.2.1 (Int32.toNatClampNeg s.2.1) (s.1.2.2.1 (Int32.toNatClampNeg s.2.2))), (upd s.1.2.2.2.1 (Int32.toNatClampNeg s.2.1) (s.1.2.2.2.1 (Int32.toNatClampNeg s.2.2))), s.1.2.2.2.2.1, s.1.2.2.2.2.2.1, s.1.2.2.2.2.2.2.1, s.1.2.2.2.2.2.2.2.1, s.1.2.2.2.2.2.2.2.2.1, s.1.2.2.2.2.2.2.2.2.2.1, s.1.2.2.2.2.2.2.2.2.2.2.1, s.1.2.2.2.2.2.2.2.2.2.2.2.1, s.1.2.2.2.2.2.2.2.2.2.2.2.2.1, s.1.2.2.2.2.2.2.2.2.2.2.2.2.2.1, s.1.2.2.2.2.2.2.2.2.2.2.2.2.2.2.1, s.1.2.2.2.2.2.2.2.2.2.2.2.2.2.2.2.1, s.1.2.2.2.2.2.2.2.2.2.2.2.2.2.2.2.2.1, s.1.2.2.2.2.2.2.2.2.2.2.2.2.2.2.2.2.2), (s.2.1 + (1 : Int32)), s.2.2) hf
        · have hf := (f_if hf).2 c4
          refine g_aload_n C dX4_carryPeople_37 rfl 1 rfl ?_
          refine g_dup C dX4_carryPeople_38 rfl ?_
          refine g_get (Cl := RX4) (T := TX4) (N := 18) C mi_X4 0 rfl (List.mem_of_getElem? (i := 0) rfl) rfl 12 (by decide) mt_234 rfl rfl dX4_carryPeople_39 ?_
          refine g_iconst (v := (1 : Int32)) C dX4_carryPeople_42 (by decide) ?_
          refine g_iadd C dX4_carryPeople_43 ?_
          refine g_put (Cl := RX4) (T := TX4) (N := 18) (Y2 := [sc E a (s.1.1, s.1.2.1, s.1.2.2.1, s.1.2.2.2.1, s.1.2.2.2.2.1, s.1.2.2.2.2.2.1, s.1.2.2.2.2.2.2.1, s.1.2.2.2.2.2.2.2.1, s.1.2.2.2.2.2.2.2.2.1, s.1.2.2.2.2.2.2.2.2.2.1, s.1.2.2.2.2.2.2.2.2.2.2.1, s.1.2.2.2.2.2.2.2.2.2.2.2.1, (s.1.2.2.2.2.2.2.2.2.2.2.2.2.1 + (1 : Int32)), s.1.2.2.2.2.2.2.2.2.2.2.2.2.2.1, s.1.2.2.2.2.2.2.2.2.2.2.2.2.2.2.1, s.1.2.2.2.2.2.2.2.2.2.2.2.2.2.2.2.1, s.1.2.2.2.2.2.2.2.2.2.2.2.2.2.2.2.2.1, s.1.2.2.2.2.2.2.2.2.2.2.2.2.2.2.2.2.2)]) C mi_X4 tyX4_ok nmX4 0 0 rfl rfl rfl 12 (by decide) mt_234 rfl rfl rfl rfl rfl (Nat.le_of_ble_eq_true rfl) dX4_carryPeople_44 rfl ?_
          refine g_aload_n C dX4_carryPeople_47 rfl 1 rfl ?_
          refine g_dup C dX4_carryPeople_48 rfl ?_
          refine g_get (Cl := RX4) (T := TX4) (N := 18) C mi_X4 0 rfl (List.mem_of_getElem? (i := 0) rfl) rfl 13 (by decide) mt_235 rfl rfl dX4_carryPeople_49 ?_
          refine g_aload_n C dX4_carryPeople_52 rfl 1 rfl ?_
          refine g_get (Cl := RX4) (T := TX4) (N := 18) C mi_X4 0 rfl (List.mem_of_getElem? (i := 0) rfl) rfl 2 (by decide) mt_214 rfl rfl dX4_carryPeople_53 ?_
          refine g_iload_n C dX4_carryPeople_56 rfl 3 rfl ?_
          obtain ⟨i10, hf⟩ := ix_s hf
          refine g_iald C 0 rfl (List.mem_of_getElem? (i := 3) rfl) i10 dX4_carryPeople_57 ?_
          refine g_iadd C dX4_carryPeople_58 ?_
          refine g_put (Cl := RX4) (T := TX4) (N := 18) (Y2 := [sc E a (s.1.1, s.1.2.1, s.1.2.2.1, s.1.2.2.2.1, s.1.2.2.2.2.1, s.1.2.2.2.2.2.1, s.1.2.2.2.2.2.2.1, s.1.2.2.2.2.2.2.2.1, s.1.2.2.2.2.2.2.2.2.1, s.1.2.2.2.2.2.2.2.2.2.1, s.1.2.2.2.2.2.2.2.2.2.2.1, s.1.2.2.2.2.2.2.2.2.2.2.2.1, (s.1.2.2.2.2.2.2.2.2.2.2.2.2.1 + (1 : Int32)), (s.1.2.2.2.2.2.2.2.2.2.2.2.2.2.1 + (s.1.2.2.1 (Int32.toNatClampNeg s.2.2))), s.1.2.2.2.2.2.2.2.2.2.2.2.2.2.2.1, s.1.2.2.2.2.2.2.2.2.2.2.2.2.2.2.2.1, s.1.2.2.2.2.2.2.2.2.2.2.2.2.2.2.2.2.1, s.1.2.2.2.2.2.2.2.2.2.2.2.2.2.2.2.2.2)]) C mi_X4 tyX4_ok nmX4 0 0 rfl rfl rfl 13 (by decide) mt_235 rfl rfl rfl rfl rfl (Nat.le_of_ble_eq_true rfl) dX4_carryPeople_59 rfl ?_
          refine g_goto (tgt := 99) C dX4_carryPeople_62 (by decide) ?_
          refine g_sub (lv2 := [(0, .ref (a 0)), (1, .int s.2.1), (2, .int s.2.2)]) [1, 2, 3] rfl ?_
          exact h99 K4 hK4 ((s.1.1, s.1.2.1, s.1.2.2.1, s.1.2.2.2.1, s.1.2.2.2.2.1, s.1.2.2.2.2.2.1, s.1.2.2.2.2.2.2.1, s.1.2.2.2.2.2.2.2.1, s.1.2.2.2.2.2.2.2.2.1, s.1.2.2.2.2.2.2.2.2.2.1, s.1.2.2.2.2.2.2.2.2.2.2.1, s.1.2.2.2.2.2.2.2.2.2.2.2.1, (s.1.2.2.2.2.2.2.2.2.2.2.2.2.1 + (1 : Int32)), (s.1.2.2.2.2.2.2.2.2.2.2.2.2.2.1 + (s.1.2.2.1 (Int32.toNatClampNeg s.2.2))), s.1.2.2.2.2.2.2.2.2.2.2.2.2.2.2.1, s.1.2.2.2.2.2.2.2.2.2.2.2.2.2.2.2.1, s.1.2.2.2.2.2.2.2.2.2.2.2.2.2.2.2.2.1, s.1.2.2.2.2.2.2.2.2.2.2.2.2.2.2.2.2.2), s.2.1, s.2.2) hf
  unfold f_X4_carryPeople at hf
  refine g_iconst (v := (0 : Int32)) C dX4_carryPeople_0 (by decide) ?_
  refine g_istore_n (lv2 := [(1, .int (0 : Int32)), (0, .ref (a 0))]) C dX4_carryPeople_1 rfl (by decide) rfl ?_
  refine g_iconst (v := (0 : Int32)) C dX4_carryPeople_2 (by decide) ?_
  refine g_istore_n (lv2 := [(2, .int (0 : Int32)), (1, .int (0 : Int32)), (0, .ref (a 0))]) C dX4_carryPeople_3 rfl (by decide) rfl ?_
  refine g_sub (lv2 := [(0, .ref (a 0)), (1, .int (0 : Int32)), (2, .int (0 : Int32))]) [2, 1, 0] rfl ?_
  exact h4 N (V, (0 : Int32), (0 : Int32)) hf
def b_X4_passTick_77 (N : Nat) (V : St) (p0 : Int32) (s : St × Int32) : Option (St) := some (s.1.1, s.1.2.1, s.1.2.2.1, s.1.2.2.2.1, s.1.2.2.2.2.1, s.1.2.2.2.2.2.1, s.1.2.2.2.2.2.2.1, s.1.2.2.2.2.2.2.2.1, s.1.2.2.2.2.2.2.2.2.1, s.1.2.2.2.2.2.2.2.2.2.1, (s.1.2.2.2.2.2.2.2.2.2.2.1 + (1 : Int32)), s.1.2.2.2.2.2.2.2.2.2.2.2.1, s.1.2.2.2.2.2.2.2.2.2.2.2.2.1, s.1.2.2.2.2.2.2.2.2.2.2.2.2.2.1, s.1.2.2.2.2.2.2.2.2.2.2.2.2.2.2.1, s.2, s.1.2.2.2.2.2.2.2.2.2.2.2.2.2.2.2.2.1, s.1.2.2.2.2.2.2.2.2.2.2.2.2.2.2.2.2.2)
def b_X4_passTick_59 (N : Nat) (V : St) (p0 : Int32) (s : St) : Option (St) := (if s.2.2.2.2.2.2.2.1 = 0 then b_X4_passTick_77 N V p0 (s, (s.2.2.2.2.2.2.2.2.2.2.2.2.2.2.2.1 + (1 : Int32))) else b_X4_passTick_77 N V p0 (s, (0 : Int32)))
def b_X4_passTick_16 (N : Nat) (V : St) (p0 : Int32) (s : St) : Option (St) := ((f_X4_countDisagreements N s).bind fun o2 => ((f_X4_totalWeight N o2).bind fun o4 => ((f_X4_wantedSpeed N o2 o4).bind fun o6 => ((f_X4_changeSpeed o2 o6 o4).bind fun o8 => ((f_X4_carryPeople N o8).bind fun o10 => (if o10.2.2.2.2.2.2.2.2.2.1 = (1 : Int32) then (if o10.2.2.2.2.2.2.2.2.2.2.2.1 = 0 then b_X4_passTick_59 N V p0 (o10.1, o10.2.1, o10.2.2.1, o10.2.2.2.1, o10.2.2.2.2.1, o10.2.2.2.2.2.1, o10.2.2.2.2.2.2.1, o10.2.2.2.2.2.2.2.1, o10.2.2.2.2.2.2.2.2.1, (2 : Int32), o10.2.2.2.2.2.2.2.2.2.2.1, o10.2.2.2.2.2.2.2.2.2.2.2.1, o10.2.2.2.2.2.2.2.2.2.2.2.2.1, o10.2.2.2.2.2.2.2.2.2.2.2.2.2.1, o10.2.2.2.2.2.2.2.2.2.2.2.2.2.2.1, o10.2.2.2.2.2.2.2.2.2.2.2.2.2.2.2.1, o10.2.2.2.2.2.2.2.2.2.2.2.2.2.2.2.2.1, o10.2.2.2.2.2.2.2.2.2.2.2.2.2.2.2.2.2) else b_X4_passTick_59 N V p0 o10) else b_X4_passTick_59 N V p0 o10))))))
def f_X4_passTick (N : Nat) (V : St) (p0 : Int32) : Option (St) := (if V.2.2.2.2.2.2.2.2.2.1 = 0 then (if p0 = 0 then b_X4_passTick_16 N V p0 V else ((f_X4_beginStop N V (0 : Int32)).bind fun o16 => b_X4_passTick_16 N V p0 o16)) else b_X4_passTick_16 N V p0 V)
abbrev rm_X4_passTick : Room := { frames := 2, cells := 0, slots := 0, locals := 44 }
set_option maxRecDepth 100000 in
theorem k_X4_passTick : CF yX4_passTick cX4_passTick 3 (Option.none : Option FieldType) 1 := ⟨mt_392, mt_393, mt_10, mt_394, ⟨rfl, by decide +kernel, by decide +kernel, by decide +kernel⟩⟩
set_option maxHeartbeats 4000000 in
set_option maxRecDepth 100000 in
theorem c_X4_passTick {E : Ev} {a : Nat → Nat} {V : St} {p0 : Int32} {N : Nat} {o : St} (hf : f_X4_passTick N V p0 = some o) : ∀ l, MG l yX4_passTick cX4_passTick 3 (Option.none : Option FieldType) rm_X4_passTick E [.ref (a 0), .int p0] [sc E a V] (fun v Y => v = none ∧ Y = [sc E a o]) := by
  refine MG.mk (own := RX4) (lv0 := [(0, .ref (a 0)), (1, .int p0)]) (by decide) rfl (Nat.le_of_ble_eq_true rfl) rfl (fun X C K I => ?_)
  have h77 : ∀ s : St × Int32, b_X4_passTick_77 N V p0 s = some o → G E X 3 [sc E a s.1] 0 0 [(0, .ref (a 0))] [.int s.2, .ref (a 0)] 77 := by
    intro s hf
    unfold b_X4_passTick_77 at hf
    refine g_put (Cl := RX4) (T := TX4) (N := 18) (Y2 := [sc E a (s.1.1, s.1.2.1, s.1.2.2.1, s.1.2.2.2.1, s.1.2.2.2.2.1, s.1.2.2.2.2.2.1, s.1.2.2.2.2.2.2.1, s.1.2.2.2.2.2.2.2.1, s.1.2.2.2.2.2.2.2.2.1, s.1.2.2.2.2.2.2.2.2.2.1, s.1.2.2.2.2.2.2.2.2.2.2.1, s.1.2.2.2.2.2.2.2.2.2.2.2.1, s.1.2.2.2.2.2.2.2.2.2.2.2.2.1, s.1.2.2.2.2.2.2.2.2.2.2.2.2.2.1, s.1.2.2.2.2.2.2.2.2.2.2.2.2.2.2.1, s.2, s.1.2.2.2.2.2.2.2.2.2.2.2.2.2.2.2.2.1, s.1.2.2.2.2.2.2.2.2.2.2.2.2.2.2.2.2.2)]) C mi_X4 tyX4_ok nmX4 0 0 rfl rfl rfl 15 (by decide) mt_238 rfl rfl rfl rfl rfl (Nat.le_of_ble_eq_true rfl) dX4_passTick_77 rfl ?_
    refine g_aload_n C dX4_passTick_80 rfl 0 rfl ?_
    refine g_dup C dX4_passTick_81 rfl ?_
    refine g_get (Cl := RX4) (T := TX4) (N := 18) C mi_X4 0 rfl (List.mem_of_getElem? (i := 0) rfl) rfl 10 (by decide) mt_230 rfl rfl dX4_passTick_82 ?_
    refine g_iconst (v := (1 : Int32)) C dX4_passTick_85 (by decide) ?_
    refine g_iadd C dX4_passTick_86 ?_
    refine g_put (Cl := RX4) (T := TX4) (N := 18) (Y2 := [sc E a (s.1.1, s.1.2.1, s.1.2.2.1, s.1.2.2.2.1, s.1.2.2.2.2.1, s.1.2.2.2.2.2.1, s.1.2.2.2.2.2.2.1, s.1.2.2.2.2.2.2.2.1, s.1.2.2.2.2.2.2.2.2.1, s.1.2.2.2.2.2.2.2.2.2.1, (s.1.2.2.2.2.2.2.2.2.2.2.1 + (1 : Int32)), s.1.2.2.2.2.2.2.2.2.2.2.2.1, s.1.2.2.2.2.2.2.2.2.2.2.2.2.1, s.1.2.2.2.2.2.2.2.2.2.2.2.2.2.1, s.1.2.2.2.2.2.2.2.2.2.2.2.2.2.2.1, s.2, s.1.2.2.2.2.2.2.2.2.2.2.2.2.2.2.2.2.1, s.1.2.2.2.2.2.2.2.2.2.2.2.2.2.2.2.2.2)]) C mi_X4 tyX4_ok nmX4 0 0 rfl rfl rfl 10 (by decide) mt_230 rfl rfl rfl rfl rfl (Nat.le_of_ble_eq_true rfl) dX4_passTick_87 rfl ?_
    obtain rfl := Option.some.inj hf
    exact g_ret C K dX4_passTick_90 (Nat.le_of_ble_eq_true rfl) (Nat.le_of_ble_eq_true rfl) ⟨rfl, rfl⟩
  have h59 : ∀ s : St, b_X4_passTick_59 N V p0 s = some o → G E X 3 [sc E a s] 0 0 [(0, .ref (a 0))] [] 59 := by
    intro s hf
    unfold b_X4_passTick_59 at hf
    refine g_aload_n C dX4_passTick_59 rfl 0 rfl ?_
    refine g_aload_n C dX4_passTick_60 rfl 0 rfl ?_
    refine g_get (Cl := RX4) (T := TX4) (N := 18) C mi_X4 0 rfl (List.mem_of_getElem? (i := 0) rfl) rfl 7 (by decide) mt_224 rfl rfl dX4_passTick_61 ?_
    refine g_if_ne (tgt := 76) C dX4_passTick_64 (by decide) (fun c1 => ?_) (fun c1 => ?_)
    · have hf := (f_if hf).2 c1
      refine g_iconst (v := (0 : Int32)) C dX4_passTick_76 (by decide) ?_
      exact h77 (s, (0 : Int32)) hf
    · have hf := (f_if hf).1 c1
      refine g_aload_n C dX4_passTick_67 rfl 0 rfl ?_
      refine g_get (Cl := RX4) (T := TX4) (N := 18) C mi_X4 0 rfl (List.mem_of_getElem? (i := 0) rfl) rfl 15 (by decide) mt_238 rfl rfl dX4_passTick_68 ?_
      refine g_iconst (v := (1 : Int32)) C dX4_passTick_71 (by decide) ?_
      refine g_iadd C dX4_passTick_72 ?_
      refine g_goto (tgt := 77) C dX4_passTick_73 (by decide) ?_
      exact h77 (s, (s.2.2.2.2.2.2.2.2.2.2.2.2.2.2.2.1 + (1 : Int32))) hf
  have h16 : ∀ s : St, b_X4_passTick_16 N V p0 s = some o → G E X 3 [sc E a s] 0 0 [(0, .ref (a 0))] [] 16 := by
    intro s hf
    unfold b_X4_passTick_16 at hf
    refine g_aload_n C dX4_passTick_16 rfl 0 rfl ?_
    obtain ⟨o2, hq3, hf⟩ := bind_s hf
    refine g_callV (As := []) (rest := []) C k_X4_countDisagreements (fun l => c_X4_countDisagreements (E := E) (a := a) (V := s) hq3 l) mt_403 [0] rfl (by decide) ⟨_, _, _, _, List.mem_flatten.mpr ⟨_, List.mem_of_getElem? (i := 0) rfl, List.mem_of_getElem? (i := 0) rfl⟩, rfl⟩ rfl (Nat.le_of_ble_eq_true rfl) ⟨Nat.le_of_ble_eq_true rfl, Nat.le_of_ble_eq_true rfl, Nat.le_of_ble_eq_true rfl, Nat.le_of_ble_eq_true rfl⟩ dX4_passTick_17 ?_
    rintro _ _ ⟨rfl, rfl⟩
    show G E X 3 [sc E a o2] 0 0 [(0, .ref (a 0))] [] 20
    refine g_aload_n C dX4_passTick_20 rfl 0 rfl ?_
    obtain ⟨o4, hq5, hf⟩ := bind_s hf
    refine g_callV (As := []) (rest := []) C k_X4_totalWeight (fun l => c_X4_totalWeight (E := E) (a := a) (V := o2) hq5 l) mt_399 [0] rfl (by decide) ⟨_, _, _, _, List.mem_flatten.mpr ⟨_, List.mem_of_getElem? (i := 0) rfl, List.mem_of_getElem? (i := 0) rfl⟩, rfl⟩ rfl (Nat.le_of_ble_eq_true rfl) ⟨Nat.le_of_ble_eq_true rfl, Nat.le_of_ble_eq_true rfl, Nat.le_of_ble_eq_true rfl, Nat.le_of_ble_eq_true rfl⟩ dX4_passTick_21 ?_
    rintro _ _ ⟨rfl, rfl⟩
    show G E X 3 [sc E a o2] 0 0 [(0, .ref (a 0))] [.int o4] 24
    refine g_istore_n (lv2 := [(2, .int o4), (0, .ref (a 0))]) C dX4_passTick_24 rfl (by decide) rfl ?_
    refine g_aload_n C dX4_passTick_25 rfl 1 rfl ?_
    refine g_aload_n C dX4_passTick_26 rfl 1 rfl ?_
    refine g_iload_n C dX4_passTick_27 rfl 0 rfl ?_
    obtain ⟨o6, hq7, hf⟩ := bind_s hf
    refine g_callV (As := [.int o4]) (rest := [.ref (a 0)]) C k_X4_wantedSpeed (fun l => c_X4_wantedSpeed (E := E) (a := a) (V := o2) hq7 l) mt_408 [0] rfl (by decide) ⟨_, _, _, _, List.mem_flatten.mpr ⟨_, List.mem_of_getElem? (i := 0) rfl, List.mem_of_getElem? (i := 0) rfl⟩, rfl⟩ rfl (Nat.le_of_ble_eq_true rfl) ⟨Nat.le_of_ble_eq_true rfl, Nat.le_of_ble_eq_true rfl, Nat.le_of_ble_eq_true rfl, Nat.le_of_ble_eq_true rfl⟩ dX4_passTick_28 ?_
    rintro _ _ ⟨rfl, rfl⟩
    show G E X 3 [sc E a o2] 0 0 [(2, .int o4), (0, .ref (a 0))] [.int o6, .ref (a 0)] 31
    refine g_iload_n C dX4_passTick_31 rfl 0 rfl ?_
    obtain ⟨o8, hq9, hf⟩ := bind_s hf
    refine g_callV (As := [.int o6, .int o4]) (rest := []) C k_X4_changeSpeed (fun l => c_X4_changeSpeed (E := E) (a := a) (V := o2) hq9 l) mt_417 [0] rfl (by decide) ⟨_, _, _, _, List.mem_flatten.mpr ⟨_, List.mem_of_getElem? (i := 0) rfl, List.mem_of_getElem? (i := 0) rfl⟩, rfl⟩ rfl (Nat.le_of_ble_eq_true rfl) ⟨Nat.le_of_ble_eq_true rfl, Nat.le_of_ble_eq_true rfl, Nat.le_of_ble_eq_true rfl, Nat.le_of_ble_eq_true rfl⟩ dX4_passTick_32 ?_
    rintro _ _ ⟨rfl, rfl⟩
    show G E X 3 [sc E a o8] 0 0 [(2, .int o4), (0, .ref (a 0))] [] 35
    refine g_aload_n C dX4_passTick_35 rfl 1 rfl ?_
    obtain ⟨o10, hq11, hf⟩ := bind_s hf
    refine g_callV (As := []) (rest := []) C k_X4_carryPeople (fun l => c_X4_carryPeople (E := E) (a := a) (V := o8) hq11 l) mt_425 [0] rfl (by decide) ⟨_, _, _, _, List.mem_flatten.mpr ⟨_, List.mem_of_getElem? (i := 0) rfl, List.mem_of_getElem? (i := 0) rfl⟩, rfl⟩ rfl (Nat.le_of_ble_eq_true rfl) ⟨Nat.le_of_ble_eq_true rfl, Nat.le_of_ble_eq_true rfl, Nat.le_of_ble_eq_true rfl, Nat.le_of_ble_eq_true rfl⟩ dX4_passTick_36 ?_
    rintro _ _ ⟨rfl, rfl⟩
    show G E X 3 [sc E a o10] 0 0 [(2, .int o4), (0, .ref (a 0))] [] 39
    refine g_aload_n C dX4_passTick_39 rfl 1 rfl ?_
    refine g_get (Cl := RX4) (T := TX4) (N := 18) C mi_X4 0 rfl (List.mem_of_getElem? (i := 0) rfl) rfl 9 (by decide) mt_228 rfl rfl dX4_passTick_40 ?_
    refine g_iconst (v := (1 : Int32)) C dX4_passTick_43 (by decide) ?_
    refine g_icmp_ne (tgt := 59) C dX4_passTick_44 (by decide) (fun c12 => ?_) (fun c12 => ?_)
    · have hf := (f_if hf).2 c12
      refine g_sub (lv2 := [(0, .ref (a 0))]) [1] rfl ?_
      exact h59 o10 hf
    · have hf := (f_if hf).1 c12
      refine g_aload_n C dX4_passTick_47 rfl 1 rfl ?_
      refine g_get (Cl := RX4) (T := TX4) (N := 18) C mi_X4 0 rfl (List.mem_of_getElem? (i := 0) rfl) rfl 11 (by decide) mt_232 rfl rfl dX4_passTick_48 ?_
      refine g_if_ne (tgt := 59) C dX4_passTick_51 (by decide) (fun c13 => ?_) (fun c13 => ?_)
      · have hf := (f_if hf).2 c13
        refine g_sub (lv2 := [(0, .ref (a 0))]) [1] rfl ?_
        exact h59 o10 hf
      · have hf := (f_if hf).1 c13
        refine g_aload_n C dX4_passTick_54 rfl 1 rfl ?_
        refine g_iconst (v := (2 : Int32)) C dX4_passTick_55 (by decide) ?_
        refine g_put (Cl := RX4) (T := TX4) (N := 18) (Y2 := [sc E a (o10.1, o10.2.1, o10.2.2.1, o10.2.2.2.1, o10.2.2.2.2.1, o10.2.2.2.2.2.1, o10.2.2.2.2.2.2.1, o10.2.2.2.2.2.2.2.1, o10.2.2.2.2.2.2.2.2.1, (2 : Int32), o10.2.2.2.2.2.2.2.2.2.2.1, o10.2.2.2.2.2.2.2.2.2.2.2.1, o10.2.2.2.2.2.2.2.2.2.2.2.2.1, o10.2.2.2.2.2.2.2.2.2.2.2.2.2.1, o10.2.2.2.2.2.2.2.2.2.2.2.2.2.2.1, o10.2.2.2.2.2.2.2.2.2.2.2.2.2.2.2.1, o10.2.2.2.2.2.2.2.2.2.2.2.2.2.2.2.2.1, o10.2.2.2.2.2.2.2.2.2.2.2.2.2.2.2.2.2)]) C mi_X4 tyX4_ok nmX4 0 0 rfl rfl rfl 9 (by decide) mt_228 rfl rfl rfl rfl rfl (Nat.le_of_ble_eq_true rfl) dX4_passTick_56 rfl ?_
        refine g_sub (lv2 := [(0, .ref (a 0))]) [1] rfl ?_
        exact h59 (o10.1, o10.2.1, o10.2.2.1, o10.2.2.2.1, o10.2.2.2.2.1, o10.2.2.2.2.2.1, o10.2.2.2.2.2.2.1, o10.2.2.2.2.2.2.2.1, o10.2.2.2.2.2.2.2.2.1, (2 : Int32), o10.2.2.2.2.2.2.2.2.2.2.1, o10.2.2.2.2.2.2.2.2.2.2.2.1, o10.2.2.2.2.2.2.2.2.2.2.2.2.1, o10.2.2.2.2.2.2.2.2.2.2.2.2.2.1, o10.2.2.2.2.2.2.2.2.2.2.2.2.2.2.1, o10.2.2.2.2.2.2.2.2.2.2.2.2.2.2.2.1, o10.2.2.2.2.2.2.2.2.2.2.2.2.2.2.2.2.1, o10.2.2.2.2.2.2.2.2.2.2.2.2.2.2.2.2.2) hf
  unfold f_X4_passTick at hf
  refine g_aload_n C dX4_passTick_0 rfl 0 rfl ?_
  refine g_get (Cl := RX4) (T := TX4) (N := 18) C mi_X4 0 rfl (List.mem_of_getElem? (i := 0) rfl) rfl 9 (by decide) mt_228 rfl rfl dX4_passTick_1 ?_
  refine g_if_ne (tgt := 16) C dX4_passTick_4 (by decide) (fun c14 => ?_) (fun c14 => ?_)
  · have hf := (f_if hf).2 c14
    refine g_sub (lv2 := [(0, .ref (a 0))]) [0] rfl ?_
    exact h16 V hf
  · have hf := (f_if hf).1 c14
    refine g_iload_n C dX4_passTick_7 rfl 1 rfl ?_
    refine g_if_eq (tgt := 16) C dX4_passTick_8 (by decide) (fun c15 => ?_) (fun c15 => ?_)
    · have hf := (f_if hf).1 c15
      refine g_sub (lv2 := [(0, .ref (a 0))]) [0] rfl ?_
      exact h16 V hf
    · have hf := (f_if hf).2 c15
      refine g_aload_n C dX4_passTick_11 rfl 0 rfl ?_
      refine g_iconst (v := (0 : Int32)) C dX4_passTick_12 (by decide) ?_
      obtain ⟨o16, hq17, hf⟩ := bind_s hf
      refine g_callV (As := [.int (0 : Int32)]) (rest := []) C k_X4_beginStop (fun l => c_X4_beginStop (E := E) (a := a) (V := V) hq17 l) mt_395 [0] rfl (by decide) ⟨_, _, _, _, List.mem_flatten.mpr ⟨_, List.mem_of_getElem? (i := 0) rfl, List.mem_of_getElem? (i := 0) rfl⟩, rfl⟩ rfl (Nat.le_of_ble_eq_true rfl) ⟨Nat.le_of_ble_eq_true rfl, Nat.le_of_ble_eq_true rfl, Nat.le_of_ble_eq_true rfl, Nat.le_of_ble_eq_true rfl⟩ dX4_passTick_13 ?_
      rintro _ _ ⟨rfl, rfl⟩
      show G E X 3 [sc E a o16] 0 0 [(0, .ref (a 0)), (1, .int p0)] [] 16
      refine g_sub (lv2 := [(0, .ref (a 0))]) [0] rfl ?_
      exact h16 o16 hf
def b_X4_unitsUntilStopped_45 (N : Nat) (V : St) (s : St × Int32) : Option (Int32 × St) := some ((s.1.2.2.2.2.2.2.2.2.2.2.2.2.2.2.2.2.1 - s.2), s.1)
def b_X4_unitsUntilStopped_19 (N : Nat) (V : St) (K19 : (St × Int32 × Int32) → Option (Int32 × St)) (s : St × Int32 × Int32) : Option (Int32 × St) := (if (3000 : Int32) ≤ s.2.2 then b_X4_unitsUntilStopped_45 N V (s.1, s.2.1) else (if s.1.2.2.2.2.2.2.2.2.2.1 = (1 : Int32) then ((f_X4_passTick N s.1 (0 : Int32)).bind fun o3 => K19 (o3, s.2.1, (s.2.2 + (1 : Int32)))) else b_X4_unitsUntilStopped_45 N V (s.1, s.2.1)))
def b_X4_unitsUntilStopped_17 (N : Nat) (V : St) (s : St × Int32) : Option (Int32 × St) := lp (b_X4_unitsUntilStopped_19 N V) N (s.1, s.2, (0 : Int32))
def f_X4_unitsUntilStopped (N : Nat) (V : St) : Option (Int32 × St) := (if V.2.2.2.2.2.2.2.2.2.1 = 0 then b_X4_unitsUntilStopped_17 N V ((V.1, V.2.1, V.2.2.1, V.2.2.2.1, V.2.2.2.2.1, V.2.2.2.2.2.1, V.2.2.2.2.2.2.1, V.2.2.2.2.2.2.2.1, V.2.2.2.2.2.2.2.2.1, (1 : Int32), V.2.2.2.2.2.2.2.2.2.2.1, V.2.2.2.2.2.2.2.2.2.2.2.1, V.2.2.2.2.2.2.2.2.2.2.2.2.1, V.2.2.2.2.2.2.2.2.2.2.2.2.2.1, V.2.2.2.2.2.2.2.2.2.2.2.2.2.2.1, V.2.2.2.2.2.2.2.2.2.2.2.2.2.2.2.1, V.2.2.2.2.2.2.2.2.2.2.2.2.2.2.2.2.1, V.2.2.2.2.2.2.2.2.2.2.2.2.2.2.2.2.2), V.2.2.2.2.2.2.2.2.2.2.2.2.2.2.2.2.1) else b_X4_unitsUntilStopped_17 N V (V, V.2.2.2.2.2.2.2.2.2.2.2.2.2.2.2.2.1))
abbrev rm_X4_unitsUntilStopped : Room := { frames := 3, cells := 0, slots := 0, locals := 66 }
set_option maxRecDepth 100000 in
theorem k_X4_unitsUntilStopped : CF yX4_unitsUntilStopped cX4_unitsUntilStopped 3 (some .int) 0 := ⟨mt_482, mt_483, mt_10, mt_484, ⟨rfl, by decide +kernel, by decide +kernel, by decide +kernel⟩⟩
set_option maxHeartbeats 4000000 in
set_option maxRecDepth 100000 in
theorem c_X4_unitsUntilStopped {E : Ev} {a : Nat → Nat} {V : St} {N : Nat} {o : Int32 × St} (hf : f_X4_unitsUntilStopped N V = some o) : ∀ l, MG l yX4_unitsUntilStopped cX4_unitsUntilStopped 3 (some .int) rm_X4_unitsUntilStopped E [.ref (a 0)] [sc E a V] (fun v Y => v = some (.int o.1) ∧ Y = [sc E a o.2]) := by
  refine MG.mk (own := RX4) (lv0 := [(0, .ref (a 0))]) (by decide) rfl (Nat.le_of_ble_eq_true rfl) rfl (fun X C K I => ?_)
  have h45 : ∀ s : St × Int32, b_X4_unitsUntilStopped_45 N V s = some o → G E X 3 [sc E a s.1] 0 0 [(0, .ref (a 0)), (1, .int s.2)] [] 45 := by
    intro s hf
    unfold b_X4_unitsUntilStopped_45 at hf
    refine g_aload_n C dX4_unitsUntilStopped_45 rfl 0 rfl ?_
    refine g_get (Cl := RX4) (T := TX4) (N := 18) C mi_X4 0 rfl (List.mem_of_getElem? (i := 0) rfl) rfl 16 (by decide) mt_239 rfl rfl dX4_unitsUntilStopped_46 ?_
    refine g_iload_n C dX4_unitsUntilStopped_49 rfl 1 rfl ?_
    refine g_isub C dX4_unitsUntilStopped_50 ?_
    obtain rfl := Option.some.inj hf
    exact g_iret C K dX4_unitsUntilStopped_51 (Nat.le_of_ble_eq_true rfl) (Nat.le_of_ble_eq_true rfl) ⟨rfl, rfl⟩
  have h19 : ∀ (n : Nat) (s : St × Int32 × Int32), lp (b_X4_unitsUntilStopped_19 N V) n s = some o → G E X 3 [sc E a s.1] 0 0 [(0, .ref (a 0)), (1, .int s.2.1), (2, .int s.2.2)] [] 19 := by
    refine lp_ind ?_
    intro K19 hK19 s hf
    unfold b_X4_unitsUntilStopped_19 at hf
    refine g_iload_n C dX4_unitsUntilStopped_19 rfl 2 rfl ?_
    refine g_sipush (v := (3000 : Int32)) C dX4_unitsUntilStopped_20 (by decide) ?_
    refine g_icmp_ge (tgt := 45) C dX4_unitsUntilStopped_23 (by decide) (fun c1 => ?_) (fun c1 => ?_)
    · have hf := (f_if hf).1 c1
      refine g_sub (lv2 := [(0, .ref (a 0)), (1, .int s.2.1)]) [0, 1] rfl ?_
      exact h45 (s.1, s.2.1) hf
    · have hf := (f_if hf).2 c1
      refine g_aload_n C dX4_unitsUntilStopped_26 rfl 0 rfl ?_
      refine g_get (Cl := RX4) (T := TX4) (N := 18) C mi_X4 0 rfl (List.mem_of_getElem? (i := 0) rfl) rfl 9 (by decide) mt_228 rfl rfl dX4_unitsUntilStopped_27 ?_
      refine g_iconst (v := (1 : Int32)) C dX4_unitsUntilStopped_30 (by decide) ?_
      refine g_icmp_ne (tgt := 45) C dX4_unitsUntilStopped_31 (by decide) (fun c2 => ?_) (fun c2 => ?_)
      · have hf := (f_if hf).2 c2
        refine g_sub (lv2 := [(0, .ref (a 0)), (1, .int s.2.1)]) [0, 1] rfl ?_
        exact h45 (s.1, s.2.1) hf
      · have hf := (f_if hf).1 c2
        refine g_aload_n C dX4_unitsUntilStopped_34 rfl 0 rfl ?_
        refine g_iconst (v := (0 : Int32)) C dX4_unitsUntilStopped_35 (by decide) ?_
        obtain ⟨o3, hq4, hf⟩ := bind_s hf
        refine g_callV (As := [.int (0 : Int32)]) (rest := []) C k_X4_passTick (fun l => c_X4_passTick (E := E) (a := a) (V := s.1) hq4 l) mt_485 [0] rfl (by decide) ⟨_, _, _, _, List.mem_flatten.mpr ⟨_, List.mem_of_getElem? (i := 0) rfl, List.mem_of_getElem? (i := 0) rfl⟩, rfl⟩ rfl (Nat.le_of_ble_eq_true rfl) ⟨Nat.le_of_ble_eq_true rfl, Nat.le_of_ble_eq_true rfl, Nat.le_of_ble_eq_true rfl, Nat.le_of_ble_eq_true rfl⟩ dX4_unitsUntilStopped_36 ?_
        rintro _ _ ⟨rfl, rfl⟩
        show G E X 3 [sc E a o3] 0 0 [(0, .ref (a 0)), (1, .int s.2.1), (2, .int s.2.2)] [] 39
        refine g_iinc (v := (s.2.2 + (1 : Int32))) (lv2 := [(2, .int (s.2.2 + (1 : Int32))), (0, .ref (a 0)), (1, .int s.2.1)]) C dX4_unitsUntilStopped_39 2 rfl (ii (by decide)) (by decide) rfl ?_
        refine g_goto (tgt := 19) C dX4_unitsUntilStopped_42 (by decide) ?_
        refine g_sub (lv2 := [(0, .ref (a 0)), (1, .int s.2.1), (2, .int (s.2.2 + (1 : Int32)))]) [1, 2, 0] rfl ?_
        exact hK19 (o3, s.2.1, (s.2.2 + (1 : Int32))) hf
  have h17 : ∀ s : St × Int32, b_X4_unitsUntilStopped_17 N V s = some o → G E X 3 [sc E a s.1] 0 0 [(0, .ref (a 0)), (1, .int s.2)] [] 17 := by
    intro s hf
    unfold b_X4_unitsUntilStopped_17 at hf
    refine g_iconst (v := (0 : Int32)) C dX4_unitsUntilStopped_17 (by decide) ?_
    refine g_istore_n (lv2 := [(2, .int (0 : Int32)), (0, .ref (a 0)), (1, .int s.2)]) C dX4_unitsUntilStopped_18 rfl (by decide) rfl ?_
    refine g_sub (lv2 := [(0, .ref (a 0)), (1, .int s.2), (2, .int (0 : Int32))]) [1, 2, 0] rfl ?_
    exact h19 N (s.1, s.2, (0 : Int32)) hf
  unfold f_X4_unitsUntilStopped at hf
  refine g_aload_n C dX4_unitsUntilStopped_0 rfl 0 rfl ?_
  refine g_get (Cl := RX4) (T := TX4) (N := 18) C mi_X4 0 rfl (List.mem_of_getElem? (i := 0) rfl) rfl 16 (by decide) mt_239 rfl rfl dX4_unitsUntilStopped_1 ?_
  refine g_istore_n (lv2 := [(1, .int V.2.2.2.2.2.2.2.2.2.2.2.2.2.2.2.2.1), (0, .ref (a 0))]) C dX4_unitsUntilStopped_4 rfl (by decide) rfl ?_
  refine g_aload_n C dX4_unitsUntilStopped_5 rfl 1 rfl ?_
  refine g_get (Cl := RX4) (T := TX4) (N := 18) C mi_X4 0 rfl (List.mem_of_getElem? (i := 0) rfl) rfl 9 (by decide) mt_228 rfl rfl dX4_unitsUntilStopped_6 ?_
  refine g_if_ne (tgt := 17) C dX4_unitsUntilStopped_9 (by decide) (fun c5 => ?_) (fun c5 => ?_)
  · have hf := (f_if hf).2 c5
    refine g_sub (lv2 := [(0, .ref (a 0)), (1, .int V.2.2.2.2.2.2.2.2.2.2.2.2.2.2.2.2.1)]) [1, 0] rfl ?_
    exact h17 (V, V.2.2.2.2.2.2.2.2.2.2.2.2.2.2.2.2.1) hf
  · have hf := (f_if hf).1 c5
    refine g_aload_n C dX4_unitsUntilStopped_12 rfl 1 rfl ?_
    refine g_iconst (v := (1 : Int32)) C dX4_unitsUntilStopped_13 (by decide) ?_
    refine g_put (Cl := RX4) (T := TX4) (N := 18) (Y2 := [sc E a (V.1, V.2.1, V.2.2.1, V.2.2.2.1, V.2.2.2.2.1, V.2.2.2.2.2.1, V.2.2.2.2.2.2.1, V.2.2.2.2.2.2.2.1, V.2.2.2.2.2.2.2.2.1, (1 : Int32), V.2.2.2.2.2.2.2.2.2.2.1, V.2.2.2.2.2.2.2.2.2.2.2.1, V.2.2.2.2.2.2.2.2.2.2.2.2.1, V.2.2.2.2.2.2.2.2.2.2.2.2.2.1, V.2.2.2.2.2.2.2.2.2.2.2.2.2.2.1, V.2.2.2.2.2.2.2.2.2.2.2.2.2.2.2.1, V.2.2.2.2.2.2.2.2.2.2.2.2.2.2.2.2.1, V.2.2.2.2.2.2.2.2.2.2.2.2.2.2.2.2.2)]) C mi_X4 tyX4_ok nmX4 0 0 rfl rfl rfl 9 (by decide) mt_228 rfl rfl rfl rfl rfl (Nat.le_of_ble_eq_true rfl) dX4_unitsUntilStopped_14 rfl ?_
    refine g_sub (lv2 := [(0, .ref (a 0)), (1, .int V.2.2.2.2.2.2.2.2.2.2.2.2.2.2.2.2.1)]) [1, 0] rfl ?_
    exact h17 ((V.1, V.2.1, V.2.2.1, V.2.2.2.1, V.2.2.2.2.1, V.2.2.2.2.2.1, V.2.2.2.2.2.2.1, V.2.2.2.2.2.2.2.1, V.2.2.2.2.2.2.2.2.1, (1 : Int32), V.2.2.2.2.2.2.2.2.2.2.1, V.2.2.2.2.2.2.2.2.2.2.2.1, V.2.2.2.2.2.2.2.2.2.2.2.2.1, V.2.2.2.2.2.2.2.2.2.2.2.2.2.1, V.2.2.2.2.2.2.2.2.2.2.2.2.2.2.1, V.2.2.2.2.2.2.2.2.2.2.2.2.2.2.2.1, V.2.2.2.2.2.2.2.2.2.2.2.2.2.2.2.2.1, V.2.2.2.2.2.2.2.2.2.2.2.2.2.2.2.2.2), V.2.2.2.2.2.2.2.2.2.2.2.2.2.2.2.2.1) hf
