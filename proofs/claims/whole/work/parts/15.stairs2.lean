def f_X4_ruleHolds (N : Nat) (V : St) (Rx : Ru) : Option (Int32) := ((f_X3_holds N Rx V.2.2.2.2.2.2.2.1).bind fun o1 => (zb o1 (some o1)))
abbrev rm_X4_ruleHolds : Room := { frames := 4, cells := 0, slots := 0, locals := 95 }
set_option maxRecDepth 100000 in
theorem k_X4_ruleHolds : CF yX4_ruleHolds cX4_ruleHolds 1 (some FieldType.boolean) 0 := ⟨mt_376, mt_377, mt_10, mt_378, ⟨rfl, by decide +kernel, by decide +kernel, by decide +kernel⟩⟩
set_option maxHeartbeats 4000000 in
set_option maxRecDepth 100000 in
theorem c_X4_ruleHolds {E : Ev} {h : Nat} {a0 : Nat} {a1 : Nat} {a2 : Nat} {a3 : Nat} {a4 : Nat} {a5 : Nat} {V : St} {gx : va_W} {rx : Nat} {b0x : Nat} {b1x : Nat} {b2x : Nat} {b3x : Nat} {Rx : Ru} (hgx : ∀ c ∈ ru E rx b0x b1x b2x b3x Rx, c ∈ gx) {N : Nat} {o : Int32} (hf : f_X4_ruleHolds N V Rx = some o) : ∀ l, MG l yX4_ruleHolds cX4_ruleHolds 1 (some .boolean) rm_X4_ruleHolds E [.ref h] [sc E h a0 a1 a2 a3 a4 a5 rx V, gx] (fun v Y => v = some (.int o) ∧ Y = [sc E h a0 a1 a2 a3 a4 a5 rx V, gx]) := by
  refine MG.mk (own := RX4) (lv0 := [(0, .ref h)]) (by decide) rfl (Nat.le_of_ble_eq_true rfl) rfl (fun X C K I => ?_)
  unfold f_X4_ruleHolds at hf
  refine g_aload_n C dX4_ruleHolds_0 rfl 0 rfl ?_
  refine g_get (Cl := RX4) (T := TX4) (N := 18) C mi_X4 0 rfl (List.mem_of_getElem? (i := 0) rfl) rfl 6 (by decide) mt_223 rfl rfl dX4_ruleHolds_1 ?_
  refine g_aload_n C dX4_ruleHolds_4 rfl 0 rfl ?_
  refine g_get (Cl := RX4) (T := TX4) (N := 18) C mi_X4 0 rfl (List.mem_of_getElem? (i := 0) rfl) rfl 8 (by decide) mt_227 rfl rfl dX4_ruleHolds_5 ?_
  obtain ⟨o1, h2, hf⟩ := bind_s hf
  refine g_callV (As := [.int V.2.2.2.2.2.2.2.1]) (rest := []) C k_X3_holds (fun l => c_X3_holds (E := E) (g := gx) (r := rx) (b0 := b0x) (b1 := b1x) (b2 := b2x) (b3 := b3x) (R := Rx) hgx h2 l) mt_379 [1] rfl (by decide) ⟨_, _, _, _, List.mem_flatten.mpr ⟨_, List.mem_of_getElem? (i := 1) rfl, hgx _ (List.mem_of_getElem? (l := ru E rx b0x b1x b2x b3x Rx) (i := 0) rfl)⟩, rfl⟩ rfl (Nat.le_of_ble_eq_true rfl) ⟨Nat.le_of_ble_eq_true rfl, Nat.le_of_ble_eq_true rfl, Nat.le_of_ble_eq_true rfl, Nat.le_of_ble_eq_true rfl⟩ dX4_ruleHolds_8 ?_
  rintro _ _ ⟨rfl, rfl⟩
  show G E X 1 [sc E h a0 a1 a2 a3 a4 a5 rx V, gx] 0 0 [(0, .ref h)] [.int o1] 11
  obtain ⟨z3, hf⟩ := zb_s hf
  obtain rfl := Option.some.inj hf
  exact g_zret C K z3 dX4_ruleHolds_11 (Nat.le_of_ble_eq_true rfl) (Nat.le_of_ble_eq_true rfl) ⟨rfl, rfl⟩
def b_X4_ticksUntilEmpty_53 (N : Nat) (V : St) (Rx : Ru) (s : St × Int32) : Option (Int32 × St) := some (s.2, s.1)
def b_X4_ticksUntilEmpty_40 (N : Nat) (V : St) (Rx : Ru) (s : St × Int32) : Option (Int32 × St) := (if s.1.2.2.2.2.2.2.1 = 0 then b_X4_ticksUntilEmpty_53 N V Rx (s.1, s.2) else b_X4_ticksUntilEmpty_53 N V Rx (s.1, (-6 : Int32)))
def b_X4_ticksUntilEmpty_7 (N : Nat) (V : St) (Rx : Ru) (K : (St × Int32 × Int32) → Option (Int32 × St)) (s : St × Int32 × Int32) : Option (Int32 × St) := (if (3000 : Int32) ≤ s.2.2 then b_X4_ticksUntilEmpty_40 N V Rx (s.1, s.2.2) else (if s.1.2.2.2.2.2.2.1 ≤ 0 then b_X4_ticksUntilEmpty_40 N V Rx (s.1, s.2.2) else (if s.1.2.2.2.2.2.2.2.2.1 = (2 : Int32) then b_X4_ticksUntilEmpty_40 N V Rx (s.1, s.2.2) else ((f_X4_passTick N s.1 s.2.1).bind fun o5 => K (o5, s.2.1, (s.2.2 + (1 : Int32)))))))
def f_X4_ticksUntilEmpty (N : Nat) (V : St) (Rx : Ru) : Option (Int32 × St) := ((f_X4_ruleHolds N V Rx).bind fun o7 => lp (b_X4_ticksUntilEmpty_7 N V Rx) N (V, o7, (0 : Int32)))
abbrev rm_X4_ticksUntilEmpty : Room := { frames := 5, cells := 0, slots := 0, locals := 115 }
set_option maxRecDepth 100000 in
theorem k_X4_ticksUntilEmpty : CF yX4_ticksUntilEmpty cX4_ticksUntilEmpty 3 (some FieldType.int) 0 := ⟨mt_501, mt_502, mt_10, mt_503, ⟨rfl, by decide +kernel, by decide +kernel, by decide +kernel⟩⟩
set_option maxHeartbeats 4000000 in
set_option maxRecDepth 100000 in
theorem c_X4_ticksUntilEmpty {E : Ev} {h : Nat} {a0 : Nat} {a1 : Nat} {a2 : Nat} {a3 : Nat} {a4 : Nat} {a5 : Nat} {V : St} {gx : va_W} {rx : Nat} {b0x : Nat} {b1x : Nat} {b2x : Nat} {b3x : Nat} {Rx : Ru} (hgx : ∀ c ∈ ru E rx b0x b1x b2x b3x Rx, c ∈ gx) {N : Nat} {o : Int32 × St} (hf : f_X4_ticksUntilEmpty N V Rx = some o) : ∀ l, MG l yX4_ticksUntilEmpty cX4_ticksUntilEmpty 3 (some .int) rm_X4_ticksUntilEmpty E [.ref h] [sc E h a0 a1 a2 a3 a4 a5 rx V, gx] (fun v Y => v = some (.int o.1) ∧ Y = [sc E h a0 a1 a2 a3 a4 a5 rx o.2, gx]) := by
  refine MG.mk (own := RX4) (lv0 := [(0, .ref h)]) (by decide) rfl (Nat.le_of_ble_eq_true rfl) rfl (fun X C K I => ?_)
  have h53 : ∀ s : St × Int32, b_X4_ticksUntilEmpty_53 N V Rx s = some o → G E X 3 [sc E h a0 a1 a2 a3 a4 a5 rx s.1, gx] 0 0 [] [.int s.2] 53 := by
    intro s hf
    unfold b_X4_ticksUntilEmpty_53 at hf
    obtain rfl := Option.some.inj hf
    exact g_iret C K dX4_ticksUntilEmpty_53 (Nat.le_of_ble_eq_true rfl) (Nat.le_of_ble_eq_true rfl) ⟨rfl, rfl⟩
  have h40 : ∀ s : St × Int32, b_X4_ticksUntilEmpty_40 N V Rx s = some o → G E X 3 [sc E h a0 a1 a2 a3 a4 a5 rx s.1, gx] 0 0 [(0, .ref h), (2, .int s.2)] [] 40 := by
    intro s hf
    unfold b_X4_ticksUntilEmpty_40 at hf
    refine g_aload_n C dX4_ticksUntilEmpty_40 rfl 0 rfl ?_
    refine g_get (Cl := RX4) (T := TX4) (N := 18) C mi_X4 0 rfl (List.mem_of_getElem? (i := 0) rfl) rfl 7 (by decide) mt_225 rfl rfl dX4_ticksUntilEmpty_41 ?_
    refine g_if_ne (tgt := 51) C dX4_ticksUntilEmpty_44 (by decide) (fun c1 => ?_) (fun c1 => ?_)
    · have hf := (f_if hf).2 c1
      refine g_bipush (v := (-6 : Int32)) C dX4_ticksUntilEmpty_51 (by decide) ?_
      refine g_sub (lv2 := []) [] rfl ?_
      exact h53 (s.1, (-6 : Int32)) hf
    · have hf := (f_if hf).1 c1
      refine g_iload_n C dX4_ticksUntilEmpty_47 rfl 1 rfl ?_
      refine g_goto (tgt := 53) C dX4_ticksUntilEmpty_48 (by decide) ?_
      refine g_sub (lv2 := []) [] rfl ?_
      exact h53 (s.1, s.2) hf
  have h7 : ∀ (n : Nat) (s : St × Int32 × Int32), lp (b_X4_ticksUntilEmpty_7 N V Rx) n s = some o → G E X 3 [sc E h a0 a1 a2 a3 a4 a5 rx s.1, gx] 0 0 [(0, .ref h), (1, .int s.2.1), (2, .int s.2.2)] [] 7 := lp_ind (by
    intro K7 hK7 s hf
    unfold b_X4_ticksUntilEmpty_7 at hf
    refine g_iload_n C dX4_ticksUntilEmpty_7 rfl 2 rfl ?_
    refine g_sipush (v := (3000 : Int32)) C dX4_ticksUntilEmpty_8 (by decide) ?_
    refine g_icmp_ge (tgt := 40) C dX4_ticksUntilEmpty_11 (by decide) (fun c2 => ?_) (fun c2 => ?_)
    · have hf := (f_if hf).1 c2
      refine g_sub (lv2 := [(0, .ref h), (2, .int s.2.2)]) [0, 2] rfl ?_
      exact h40 (s.1, s.2.2) hf
    · have hf := (f_if hf).2 c2
      refine g_aload_n C dX4_ticksUntilEmpty_14 rfl 0 rfl ?_
      refine g_get (Cl := RX4) (T := TX4) (N := 18) C mi_X4 0 rfl (List.mem_of_getElem? (i := 0) rfl) rfl 7 (by decide) mt_225 rfl rfl dX4_ticksUntilEmpty_15 ?_
      refine g_if_le (tgt := 40) C dX4_ticksUntilEmpty_18 (by decide) (fun c3 => ?_) (fun c3 => ?_)
      · have hf := (f_if hf).1 c3
        refine g_sub (lv2 := [(0, .ref h), (2, .int s.2.2)]) [0, 2] rfl ?_
        exact h40 (s.1, s.2.2) hf
      · have hf := (f_if hf).2 c3
        refine g_aload_n C dX4_ticksUntilEmpty_21 rfl 0 rfl ?_
        refine g_get (Cl := RX4) (T := TX4) (N := 18) C mi_X4 0 rfl (List.mem_of_getElem? (i := 0) rfl) rfl 9 (by decide) mt_229 rfl rfl dX4_ticksUntilEmpty_22 ?_
        refine g_iconst (v := (2 : Int32)) C dX4_ticksUntilEmpty_25 (by decide) ?_
        refine g_icmp_eq (tgt := 40) C dX4_ticksUntilEmpty_26 (by decide) (fun c4 => ?_) (fun c4 => ?_)
        · have hf := (f_if hf).1 c4
          refine g_sub (lv2 := [(0, .ref h), (2, .int s.2.2)]) [0, 2] rfl ?_
          exact h40 (s.1, s.2.2) hf
        · have hf := (f_if hf).2 c4
          refine g_aload_n C dX4_ticksUntilEmpty_29 rfl 0 rfl ?_
          refine g_iload_n C dX4_ticksUntilEmpty_30 rfl 1 rfl ?_
          obtain ⟨o5, h6, hf⟩ := bind_s hf
          refine g_callV (As := [.int s.2.1]) (rest := []) C k_X4_passTick (fun l => c_X4_passTick (E := E) (h := h) (a0 := a0) (a1 := a1) (a2 := a2) (a3 := a3) (a4 := a4) (a5 := a5) (r := rx) (V := s.1) h6 l) mt_495 [0] rfl (by decide) ⟨_, _, _, _, List.mem_flatten.mpr ⟨_, List.mem_of_getElem? (i := 0) rfl, List.mem_of_getElem? (i := 0) rfl⟩, rfl⟩ rfl (Nat.le_of_ble_eq_true rfl) ⟨Nat.le_of_ble_eq_true rfl, Nat.le_of_ble_eq_true rfl, Nat.le_of_ble_eq_true rfl, Nat.le_of_ble_eq_true rfl⟩ dX4_ticksUntilEmpty_31 ?_
          rintro _ _ ⟨rfl, rfl⟩
          show G E X 3 [sc E h a0 a1 a2 a3 a4 a5 rx o5, gx] 0 0 [(0, .ref h), (1, .int s.2.1), (2, .int s.2.2)] [] 34
          refine g_iinc (v := (s.2.2 + (1 : Int32))) (lv2 := [(2, .int (s.2.2 + (1 : Int32))), (0, .ref h), (1, .int s.2.1)]) C dX4_ticksUntilEmpty_34 2 rfl (ii (by decide)) (by decide) rfl ?_
          refine g_goto (tgt := 7) C dX4_ticksUntilEmpty_37 (by decide) ?_
          refine g_sub (lv2 := [(0, .ref h), (1, .int s.2.1), (2, .int (s.2.2 + (1 : Int32)))]) [1, 2, 0] rfl ?_
          exact hK7 (o5, s.2.1, (s.2.2 + (1 : Int32))) hf)
  unfold f_X4_ticksUntilEmpty at hf
  refine g_aload_n C dX4_ticksUntilEmpty_0 rfl 0 rfl ?_
  obtain ⟨o7, h8, hf⟩ := bind_s hf
  refine g_callV (As := []) (rest := []) C k_X4_ruleHolds (fun l => c_X4_ruleHolds (E := E) (h := h) (a0 := a0) (a1 := a1) (a2 := a2) (a3 := a3) (a4 := a4) (a5 := a5) (rx := rx) (V := V) (gx := gx) (b0x := b0x) (b1x := b1x) (b2x := b2x) (b3x := b3x) (Rx := Rx) hgx h8 l) mt_504 [0, 1] rfl (by decide) ⟨_, _, _, _, List.mem_flatten.mpr ⟨_, List.mem_of_getElem? (i := 0) rfl, List.mem_of_getElem? (i := 0) rfl⟩, rfl⟩ rfl (Nat.le_of_ble_eq_true rfl) ⟨Nat.le_of_ble_eq_true rfl, Nat.le_of_ble_eq_true rfl, Nat.le_of_ble_eq_true rfl, Nat.le_of_ble_eq_true rfl⟩ dX4_ticksUntilEmpty_1 ?_
  rintro _ _ ⟨rfl, rfl⟩
  show G E X 3 [sc E h a0 a1 a2 a3 a4 a5 rx V, gx] 0 0 [(0, .ref h)] [.int o7] 4
  refine g_istore_n (lv2 := [(1, .int o7), (0, .ref h)]) C dX4_ticksUntilEmpty_4 rfl (by decide) rfl ?_
  refine g_iconst (v := (0 : Int32)) C dX4_ticksUntilEmpty_5 (by decide) ?_
  refine g_istore_n (lv2 := [(2, .int (0 : Int32)), (1, .int o7), (0, .ref h)]) C dX4_ticksUntilEmpty_6 rfl (by decide) rfl ?_
  refine g_sub (lv2 := [(0, .ref h), (1, .int o7), (2, .int (0 : Int32))]) [2, 1, 0] rfl ?_
  exact h7 N (V, o7, (0 : Int32)) hf
