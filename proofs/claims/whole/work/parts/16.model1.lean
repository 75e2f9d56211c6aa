def b_X6_in_15 (p0 : Int32) (p1 : Int32) (p2 : Int32) (s : Int32) : Option (Int32) := (zb s (some s))
def b_X6_in_14 (p0 : Int32) (p1 : Int32) (p2 : Int32) (s : Unit) : Option (Int32) := b_X6_in_15 p0 p1 p2 (0 : Int32)
def f_X6_in (p0 : Int32) (p1 : Int32) (p2 : Int32) : Option (Int32) := (if p0 < p1 then b_X6_in_14 p0 p1 p2 () else (if p2 < p0 then b_X6_in_14 p0 p1 p2 () else b_X6_in_15 p0 p1 p2 (1 : Int32)))
abbrev rm_X6_in : Room := { frames := 0, cells := 0, slots := 0, locals := 0 }
set_option maxRecDepth 100000 in
theorem k_X6_in : CFs yX6_in cX6_in 3 (some .boolean) 3 := ⟨mt_641, mt_13, mt_642, ⟨by decide +kernel, by decide +kernel, by decide +kernel⟩⟩
set_option maxHeartbeats 4000000 in
set_option maxRecDepth 100000 in
theorem c_X6_in {E : Ev} {p0 : Int32} {p1 : Int32} {p2 : Int32} {o : Int32} (hf : f_X6_in p0 p1 p2 = some o) : ∀ l, MG l yX6_in cX6_in 3 (some .boolean) rm_X6_in E [.int p0, .int p1, .int p2] [] (fun v Y => v = some (.int o) ∧ Y = []) := by
  refine MG.mk (own := RX6) (lv0 := [(0, .int p0), (1, .int p1), (2, .int p2)]) (by decide) rfl (Nat.le_of_ble_eq_true rfl) rfl (fun X C K I => ?_)
  have h15 : ∀ s : Int32, b_X6_in_15 p0 p1 p2 s = some o → G E X 3 [] 0 0 [] [.int s] 15 := by
    intro s hf
    unfold b_X6_in_15 at hf
    obtain ⟨z1, hf⟩ := zb_s hf
    obtain rfl := Option.some.inj hf
    exact g_zret C K z1 dX6_in_15 (Nat.le_of_ble_eq_true rfl) (Nat.le_of_ble_eq_true rfl) ⟨rfl, rfl⟩
  have h14 : ∀ s : Unit, b_X6_in_14 p0 p1 p2 s = some o → G E X 3 [] 0 0 [] [] 14 := by
    intro s hf
    unfold b_X6_in_14 at hf
    refine g_iconst (v := (0 : Int32)) C dX6_in_14 (by decide) ?_
    exact h15 (0 : Int32) hf
  unfold f_X6_in at hf
  refine g_iload_n C dX6_in_0 rfl 0 rfl ?_
  refine g_iload_n C dX6_in_1 rfl 1 rfl ?_
  refine g_icmp_lt (tgt := 14) C dX6_in_2 (by decide) (fun c2 => ?_) (fun c2 => ?_)
  · have hf := (f_if hf).1 c2
    refine g_sub (lv2 := []) [] rfl ?_
    exact h14 () hf
  · have hf := (f_if hf).2 c2
    refine g_iload_n C dX6_in_5 rfl 0 rfl ?_
    refine g_iload_n C dX6_in_6 rfl 2 rfl ?_
    refine g_icmp_gt (tgt := 14) C dX6_in_7 (by decide) (fun c3 => ?_) (fun c3 => ?_)
    · have hf := (f_if hf).1 c3
      refine g_sub (lv2 := []) [] rfl ?_
      exact h14 () hf
    · have hf := (f_if hf).2 c3
      refine g_iconst (v := (1 : Int32)) C dX6_in_10 (by decide) ?_
      refine g_goto (tgt := 15) C dX6_in_11 (by decide) ?_
      refine g_sub (lv2 := []) [] rfl ?_
      exact h15 (1 : Int32) hf
def f_X6_isSpot (p0 : Int32) : Option (Int32) := ((f_X6_in p0 (0 : Int32) (3 : Int32)).bind fun o1 => (zb o1 (some o1)))
abbrev rm_X6_isSpot : Room := { frames := 1, cells := 0, slots := 0, locals := 22 }
set_option maxRecDepth 100000 in
theorem k_X6_isSpot : CFs yX6_isSpot cX6_isSpot 1 (some .boolean) 1 := ⟨mt_707, mt_13, mt_708, ⟨by decide +kernel, by decide +kernel, by decide +kernel⟩⟩
set_option maxHeartbeats 4000000 in
set_option maxRecDepth 100000 in
theorem c_X6_isSpot {E : Ev} {p0 : Int32} {o : Int32} (hf : f_X6_isSpot p0 = some o) : ∀ l, MG l yX6_isSpot cX6_isSpot 1 (some .boolean) rm_X6_isSpot E [.int p0] [] (fun v Y => v = some (.int o) ∧ Y = []) := by
  refine MG.mk (own := RX6) (lv0 := [(0, .int p0)]) (by decide) rfl (Nat.le_of_ble_eq_true rfl) rfl (fun X C K I => ?_)
  unfold f_X6_isSpot at hf
  refine g_iload_n C dX6_isSpot_0 rfl 0 rfl ?_
  refine g_iconst (v := (0 : Int32)) C dX6_isSpot_1 (by decide) ?_
  refine g_iconst (v := (3 : Int32)) C dX6_isSpot_2 (by decide) ?_
  obtain ⟨o1, h2, hf⟩ := bind_s hf
  refine g_callS (As := [.int p0, .int (0 : Int32), .int (3 : Int32)]) (rest := []) C k_X6_in (fun l => c_X6_in (E := E) h2 l) mt_640 [] rfl (by decide) rfl (Nat.le_of_ble_eq_true rfl) ⟨Nat.le_of_ble_eq_true rfl, Nat.le_of_ble_eq_true rfl, Nat.le_of_ble_eq_true rfl, Nat.le_of_ble_eq_true rfl⟩ dX6_isSpot_3 ?_
  rintro _ _ ⟨rfl, rfl⟩
  show G E X 1 [] 0 0 [(0, .int p0)] [.int o1] 6
  obtain ⟨z3, hf⟩ := zb_s hf
  obtain rfl := Option.some.inj hf
  exact g_zret C K z3 dX6_isSpot_6 (Nat.le_of_ble_eq_true rfl) (Nat.le_of_ble_eq_true rfl) ⟨rfl, rfl⟩
def b_X6_isSo_66 (p0 : Int32) (p1 : Int32) (s : Int32) : Option (Int32) := (zb s (some s))
def b_X6_isSo_35 (p0 : Int32) (p1 : Int32) (s : Int32 × Int32 × Int32 × Int32) : Option (Int32) := (if s.1 = 0 then (if ((s.2.1 >>> ((s.2.2.1 * s.2.2.2) &&& 31)) &&& (3 : Int32)) ≤ 0 then b_X6_isSo_66 p0 p1 (0 : Int32) else b_X6_isSo_66 p0 p1 (1 : Int32)) else (if ((s.2.1 >>> ((s.2.2.1 * s.2.2.2) &&& 31)) &&& (3 : Int32)) = (3 : Int32) then b_X6_isSo_66 p0 p1 (1 : Int32) else b_X6_isSo_66 p0 p1 (0 : Int32)))
def b_X6_isSo_17 (p0 : Int32) (p1 : Int32) (s : Int32) : Option (Int32) := (if s = 0 then b_X6_isSo_35 p0 p1 (s, p1, (2 : Int32), (p0 - (97 : Int32))) else b_X6_isSo_35 p0 p1 (s, p1, (2 : Int32), (p0 - (65 : Int32))))
def b_X6_isSo_16 (p0 : Int32) (p1 : Int32) (s : Unit) : Option (Int32) := b_X6_isSo_17 p0 p1 (0 : Int32)
def f_X6_isSo (p0 : Int32) (p1 : Int32) : Option (Int32) := (if p0 < (65 : Int32) then b_X6_isSo_16 p0 p1 () else (if (68 : Int32) < p0 then b_X6_isSo_16 p0 p1 () else b_X6_isSo_17 p0 p1 (1 : Int32)))
abbrev rm_X6_isSo : Room := { frames := 0, cells := 0, slots := 0, locals := 0 }
set_option maxRecDepth 100000 in
theorem k_X6_isSo : CFs yX6_isSo cX6_isSo 4 (some .boolean) 2 := ⟨mt_675, mt_13, mt_676, ⟨by decide +kernel, by decide +kernel, by decide +kernel⟩⟩
set_option maxHeartbeats 4000000 in
set_option maxRecDepth 100000 in
theorem c_X6_isSo {E : Ev} {p0 : Int32} {p1 : Int32} {o : Int32} (hf : f_X6_isSo p0 p1 = some o) : ∀ l, MG l yX6_isSo cX6_isSo 4 (some .boolean) rm_X6_isSo E [.int p0, .int p1] [] (fun v Y => v = some (.int o) ∧ Y = []) := by
  refine MG.mk (own := RX6) (lv0 := [(0, .int p0), (1, .int p1)]) (by decide) rfl (Nat.le_of_ble_eq_true rfl) rfl (fun X C K I => ?_)
  have h66 : ∀ s : Int32, b_X6_isSo_66 p0 p1 s = some o → G E X 4 [] 0 0 [] [.int s] 66 := by
    intro s hf
    unfold b_X6_isSo_66 at hf
    obtain ⟨z1, hf⟩ := zb_s hf
    obtain rfl := Option.some.inj hf
    exact g_zret C K z1 dX6_isSo_66 (Nat.le_of_ble_eq_true rfl) (Nat.le_of_ble_eq_true rfl) ⟨rfl, rfl⟩
  have h35 : ∀ s : Int32 × Int32 × Int32 × Int32, b_X6_isSo_35 p0 p1 s = some o → G E X 4 [] 0 0 [(2, .int s.1)] [.int s.2.2.2, .int s.2.2.1, .int s.2.1] 35 := by
    intro s hf
    unfold b_X6_isSo_35 at hf
    refine g_imul C dX6_isSo_35 ?_
    refine g_ishr C dX6_isSo_36 ?_
    refine g_iconst (v := (3 : Int32)) C dX6_isSo_37 (by decide) ?_
    refine g_iand C dX6_isSo_38 ?_
    refine g_istore_n (lv2 := [(3, .int ((s.2.1 >>> ((s.2.2.1 * s.2.2.2) &&& 31)) &&& (3 : Int32))), (2, .int s.1)]) C dX6_isSo_39 rfl (by decide) rfl ?_
    refine g_iload_n C dX6_isSo_40 rfl 1 rfl ?_
    refine g_if_eq (tgt := 57) C dX6_isSo_41 (by decide) (fun c2 => ?_) (fun c2 => ?_)
    · have hf := (f_if hf).1 c2
      refine g_iload_n C dX6_isSo_57 rfl 0 rfl ?_
      refine g_if_le (tgt := 65) C dX6_isSo_58 (by decide) (fun c3 => ?_) (fun c3 => ?_)
      · have hf := (f_if hf).1 c3
        refine g_iconst (v := (0 : Int32)) C dX6_isSo_65 (by decide) ?_
        refine g_sub (lv2 := []) [] rfl ?_
        exact h66 (0 : Int32) hf
      · have hf := (f_if hf).2 c3
        refine g_iconst (v := (1 : Int32)) C dX6_isSo_61 (by decide) ?_
        refine g_goto (tgt := 66) C dX6_isSo_62 (by decide) ?_
        refine g_sub (lv2 := []) [] rfl ?_
        exact h66 (1 : Int32) hf
    · have hf := (f_if hf).2 c2
      refine g_iload_n C dX6_isSo_44 rfl 0 rfl ?_
      refine g_iconst (v := (3 : Int32)) C dX6_isSo_45 (by decide) ?_
      refine g_icmp_ne (tgt := 53) C dX6_isSo_46 (by decide) (fun c4 => ?_) (fun c4 => ?_)
      · have hf := (f_if hf).2 c4
        refine g_iconst (v := (0 : Int32)) C dX6_isSo_53 (by decide) ?_
        refine g_goto (tgt := 66) C dX6_isSo_54 (by decide) ?_
        refine g_sub (lv2 := []) [] rfl ?_
        exact h66 (0 : Int32) hf
      · have hf := (f_if hf).1 c4
        refine g_iconst (v := (1 : Int32)) C dX6_isSo_49 (by decide) ?_
        refine g_goto (tgt := 66) C dX6_isSo_50 (by decide) ?_
        refine g_sub (lv2 := []) [] rfl ?_
        exact h66 (1 : Int32) hf
  have h17 : ∀ s : Int32, b_X6_isSo_17 p0 p1 s = some o → G E X 4 [] 0 0 [(0, .int p0), (1, .int p1)] [.int s] 17 := by
    intro s hf
    unfold b_X6_isSo_17 at hf
    refine g_istore_n (lv2 := [(2, .int s), (0, .int p0), (1, .int p1)]) C dX6_isSo_17 rfl (by decide) rfl ?_
    refine g_iload_n C dX6_isSo_18 rfl 2 rfl ?_
    refine g_iconst (v := (2 : Int32)) C dX6_isSo_19 (by decide) ?_
    refine g_iload_n C dX6_isSo_20 rfl 0 rfl ?_
    refine g_if_eq (tgt := 31) C dX6_isSo_21 (by decide) (fun c5 => ?_) (fun c5 => ?_)
    · have hf := (f_if hf).1 c5
      refine g_iload_n C dX6_isSo_31 rfl 1 rfl ?_
      refine g_bipush (v := (97 : Int32)) C dX6_isSo_32 (by decide) ?_
      refine g_isub C dX6_isSo_34 ?_
      refine g_sub (lv2 := [(2, .int s)]) [0] rfl ?_
      exact h35 (s, p1, (2 : Int32), (p0 - (97 : Int32))) hf
    · have hf := (f_if hf).2 c5
      refine g_iload_n C dX6_isSo_24 rfl 1 rfl ?_
      refine g_bipush (v := (65 : Int32)) C dX6_isSo_25 (by decide) ?_
      refine g_isub C dX6_isSo_27 ?_
      refine g_goto (tgt := 35) C dX6_isSo_28 (by decide) ?_
      refine g_sub (lv2 := [(2, .int s)]) [0] rfl ?_
      exact h35 (s, p1, (2 : Int32), (p0 - (65 : Int32))) hf
  have h16 : ∀ s : Unit, b_X6_isSo_16 p0 p1 s = some o → G E X 4 [] 0 0 [(0, .int p0), (1, .int p1)] [] 16 := by
    intro s hf
    unfold b_X6_isSo_16 at hf
    refine g_iconst (v := (0 : Int32)) C dX6_isSo_16 (by decide) ?_
    exact h17 (0 : Int32) hf
  unfold f_X6_isSo at hf
  refine g_iload_n C dX6_isSo_0 rfl 0 rfl ?_
  refine g_bipush (v := (65 : Int32)) C dX6_isSo_1 (by decide) ?_
  refine g_icmp_lt (tgt := 16) C dX6_isSo_3 (by decide) (fun c6 => ?_) (fun c6 => ?_)
  · have hf := (f_if hf).1 c6
    exact h16 () hf
  · have hf := (f_if hf).2 c6
    refine g_iload_n C dX6_isSo_6 rfl 0 rfl ?_
    refine g_bipush (v := (68 : Int32)) C dX6_isSo_7 (by decide) ?_
    refine g_icmp_gt (tgt := 16) C dX6_isSo_9 (by decide) (fun c7 => ?_) (fun c7 => ?_)
    · have hf := (f_if hf).1 c7
      exact h16 () hf
    · have hf := (f_if hf).2 c7
      refine g_iconst (v := (1 : Int32)) C dX6_isSo_12 (by decide) ?_
      refine g_goto (tgt := 17) C dX6_isSo_13 (by decide) ?_
      exact h17 (1 : Int32) hf
def b_X6_strength_31 (p0 : Int32) (s : Int32) : Option (Int32) := some s
def f_X6_strength (p0 : Int32) : Option (Int32) := (if p0 = (33 : Int32) then b_X6_strength_31 p0 (3 : Int32) else (if p0 = (38 : Int32) then b_X6_strength_31 p0 (2 : Int32) else (if p0 = (124 : Int32) then b_X6_strength_31 p0 (1 : Int32) else b_X6_strength_31 p0 (0 : Int32))))
abbrev rm_X6_strength : Room := { frames := 0, cells := 0, slots := 0, locals := 0 }
set_option maxRecDepth 100000 in
theorem k_X6_strength : CFs yX6_strength cX6_strength 1 (some .int) 1 := ⟨mt_668, mt_13, mt_669, ⟨by decide +kernel, by decide +kernel, by decide +kernel⟩⟩
set_option maxHeartbeats 4000000 in
set_option maxRecDepth 100000 in
theorem c_X6_strength {E : Ev} {p0 : Int32} {o : Int32} (hf : f_X6_strength p0 = some o) : ∀ l, MG l yX6_strength cX6_strength 1 (some .int) rm_X6_strength E [.int p0] [] (fun v Y => v = some (.int o) ∧ Y = []) := by
  refine MG.mk (own := RX6) (lv0 := [(0, .int p0)]) (by decide) rfl (Nat.le_of_ble_eq_true rfl) rfl (fun X C K I => ?_)
  have h31 : ∀ s : Int32, b_X6_strength_31 p0 s = some o → G E X 1 [] 0 0 [] [.int s] 31 := by
    intro s hf
    unfold b_X6_strength_31 at hf
    obtain rfl := Option.some.inj hf
    exact g_iret C K dX6_strength_31 (Nat.le_of_ble_eq_true rfl) (Nat.le_of_ble_eq_true rfl) ⟨rfl, rfl⟩
  unfold f_X6_strength at hf
  refine g_iload_n C dX6_strength_0 rfl 0 rfl ?_
  refine g_bipush (v := (33 : Int32)) C dX6_strength_1 (by decide) ?_
  refine g_icmp_ne (tgt := 10) C dX6_strength_3 (by decide) (fun c1 => ?_) (fun c1 => ?_)
  · have hf := (f_if hf).2 c1
    refine g_iload_n C dX6_strength_10 rfl 0 rfl ?_
    refine g_bipush (v := (38 : Int32)) C dX6_strength_11 (by decide) ?_
    refine g_icmp_ne (tgt := 20) C dX6_strength_13 (by decide) (fun c2 => ?_) (fun c2 => ?_)
    · have hf := (f_if hf).2 c2
      refine g_iload_n C dX6_strength_20 rfl 0 rfl ?_
      refine g_bipush (v := (124 : Int32)) C dX6_strength_21 (by decide) ?_
      refine g_icmp_ne (tgt := 30) C dX6_strength_23 (by decide) (fun c3 => ?_) (fun c3 => ?_)
      · have hf := (f_if hf).2 c3
        refine g_iconst (v := (0 : Int32)) C dX6_strength_30 (by decide) ?_
        refine g_sub (lv2 := []) [] rfl ?_
        exact h31 (0 : Int32) hf
      · have hf := (f_if hf).1 c3
        refine g_iconst (v := (1 : Int32)) C dX6_strength_26 (by decide) ?_
        refine g_goto (tgt := 31) C dX6_strength_27 (by decide) ?_
        refine g_sub (lv2 := []) [] rfl ?_
        exact h31 (1 : Int32) hf
    · have hf := (f_if hf).1 c2
      refine g_iconst (v := (2 : Int32)) C dX6_strength_16 (by decide) ?_
      refine g_goto (tgt := 31) C dX6_strength_17 (by decide) ?_
      refine g_sub (lv2 := []) [] rfl ?_
      exact h31 (2 : Int32) hf
  · have hf := (f_if hf).1 c1
    refine g_iconst (v := (3 : Int32)) C dX6_strength_6 (by decide) ?_
    refine g_goto (tgt := 31) C dX6_strength_7 (by decide) ?_
    refine g_sub (lv2 := []) [] rfl ?_
    exact h31 (3 : Int32) hf
def b_X6_isLetter_29 (p0 : Int32) (s : Int32) : Option (Int32) := (zb s (some s))
def b_X6_isLetter_28 (p0 : Int32) (s : Unit) : Option (Int32) := b_X6_isLetter_29 p0 (0 : Int32)
def b_X6_isLetter_24 (p0 : Int32) (s : Unit) : Option (Int32) := b_X6_isLetter_29 p0 (1 : Int32)
def b_X6_isLetter_12 (p0 : Int32) (s : Unit) : Option (Int32) := (if p0 < (65 : Int32) then b_X6_isLetter_28 p0 () else (if (68 : Int32) < p0 then b_X6_isLetter_28 p0 () else b_X6_isLetter_24 p0 ()))
def f_X6_isLetter (p0 : Int32) : Option (Int32) := (if p0 < (97 : Int32) then b_X6_isLetter_12 p0 () else (if p0 ≤ (100 : Int32) then b_X6_isLetter_24 p0 () else b_X6_isLetter_12 p0 ()))
abbrev rm_X6_isLetter : Room := { frames := 0, cells := 0, slots := 0, locals := 0 }
set_option maxRecDepth 100000 in
theorem k_X6_isLetter : CFs yX6_isLetter cX6_isLetter 1 (some .boolean) 1 := ⟨mt_686, mt_13, mt_687, ⟨by decide +kernel, by decide +kernel, by decide +kernel⟩⟩
set_option maxHeartbeats 4000000 in
set_option maxRecDepth 100000 in
theorem c_X6_isLetter {E : Ev} {p0 : Int32} {o : Int32} (hf : f_X6_isLetter p0 = some o) : ∀ l, MG l yX6_isLetter cX6_isLetter 1 (some .boolean) rm_X6_isLetter E [.int p0] [] (fun v Y => v = some (.int o) ∧ Y = []) := by
  refine MG.mk (own := RX6) (lv0 := [(0, .int p0)]) (by decide) rfl (Nat.le_of_ble_eq_true rfl) rfl (fun X C K I => ?_)
  have h29 : ∀ s : Int32, b_X6_isLetter_29 p0 s = some o → G E X 1 [] 0 0 [] [.int s] 29 := by
    intro s hf
    unfold b_X6_isLetter_29 at hf
    obtain ⟨z1, hf⟩ := zb_s hf
    obtain rfl := Option.some.inj hf
    exact g_zret C K z1 dX6_isLetter_29 (Nat.le_of_ble_eq_true rfl) (Nat.le_of_ble_eq_true rfl) ⟨rfl, rfl⟩
  have h28 : ∀ s : Unit, b_X6_isLetter_28 p0 s = some o → G E X 1 [] 0 0 [] [] 28 := by
    intro s hf
    unfold b_X6_isLetter_28 at hf
    refine g_iconst (v := (0 : Int32)) C dX6_isLetter_28 (by decide) ?_
    exact h29 (0 : Int32) hf
  have h24 : ∀ s : Unit, b_X6_isLetter_24 p0 s = some o → G E X 1 [] 0 0 [] [] 24 := by
    intro s hf
    unfold b_X6_isLetter_24 at hf
    refine g_iconst (v := (1 : Int32)) C dX6_isLetter_24 (by decide) ?_
    refine g_goto (tgt := 29) C dX6_isLetter_25 (by decide) ?_
    exact h29 (1 : Int32) hf
  have h12 : ∀ s : Unit, b_X6_isLetter_12 p0 s = some o → G E X 1 [] 0 0 [(0, .int p0)] [] 12 := by
    intro s hf
    unfold b_X6_isLetter_12 at hf
    refine g_iload_n C dX6_isLetter_12 rfl 0 rfl ?_
    refine g_bipush (v := (65 : Int32)) C dX6_isLetter_13 (by decide) ?_
    refine g_icmp_lt (tgt := 28) C dX6_isLetter_15 (by decide) (fun c2 => ?_) (fun c2 => ?_)
    · have hf := (f_if hf).1 c2
      refine g_sub (lv2 := []) [] rfl ?_
      exact h28 () hf
    · have hf := (f_if hf).2 c2
      refine g_iload_n C dX6_isLetter_18 rfl 0 rfl ?_
      refine g_bipush (v := (68 : Int32)) C dX6_isLetter_19 (by decide) ?_
      refine g_icmp_gt (tgt := 28) C dX6_isLetter_21 (by decide) (fun c3 => ?_) (fun c3 => ?_)
      · have hf := (f_if hf).1 c3
        refine g_sub (lv2 := []) [] rfl ?_
        exact h28 () hf
      · have hf := (f_if hf).2 c3
        refine g_sub (lv2 := []) [] rfl ?_
        exact h24 () hf
  unfold f_X6_isLetter at hf
  refine g_iload_n C dX6_isLetter_0 rfl 0 rfl ?_
  refine g_bipush (v := (97 : Int32)) C dX6_isLetter_1 (by decide) ?_
  refine g_icmp_lt (tgt := 12) C dX6_isLetter_3 (by decide) (fun c4 => ?_) (fun c4 => ?_)
  · have hf := (f_if hf).1 c4
    exact h12 () hf
  · have hf := (f_if hf).2 c4
    refine g_iload_n C dX6_isLetter_6 rfl 0 rfl ?_
    refine g_bipush (v := (100 : Int32)) C dX6_isLetter_7 (by decide) ?_
    refine g_icmp_le (tgt := 24) C dX6_isLetter_9 (by decide) (fun c5 => ?_) (fun c5 => ?_)
    · have hf := (f_if hf).1 c5
      refine g_sub (lv2 := []) [] rfl ?_
      exact h24 () hf
    · have hf := (f_if hf).2 c5
      exact h12 () hf
def b_X6_leastOf_10 (p0 : Int32) (s : Int32) : Option (Int32) := some s
def f_X6_leastOf (p0 : Int32) : Option (Int32) := (if p0 = 0 then b_X6_leastOf_10 p0 (10 : Int32) else b_X6_leastOf_10 p0 (1 : Int32))
abbrev rm_X6_leastOf : Room := { frames := 0, cells := 0, slots := 0, locals := 0 }
set_option maxRecDepth 100000 in
theorem k_X6_leastOf : CFs yX6_leastOf cX6_leastOf 1 (some .int) 1 := ⟨mt_693, mt_13, mt_694, ⟨by decide +kernel, by decide +kernel, by decide +kernel⟩⟩
set_option maxHeartbeats 4000000 in
set_option maxRecDepth 100000 in
theorem c_X6_leastOf {E : Ev} {p0 : Int32} {o : Int32} (hf : f_X6_leastOf p0 = some o) : ∀ l, MG l yX6_leastOf cX6_leastOf 1 (some .int) rm_X6_leastOf E [.int p0] [] (fun v Y => v = some (.int o) ∧ Y = []) := by
  refine MG.mk (own := RX6) (lv0 := [(0, .int p0)]) (by decide) rfl (Nat.le_of_ble_eq_true rfl) rfl (fun X C K I => ?_)
  have h10 : ∀ s : Int32, b_X6_leastOf_10 p0 s = some o → G E X 1 [] 0 0 [] [.int s] 10 := by
    intro s hf
    unfold b_X6_leastOf_10 at hf
    obtain rfl := Option.some.inj hf
    exact g_iret C K dX6_leastOf_10 (Nat.le_of_ble_eq_true rfl) (Nat.le_of_ble_eq_true rfl) ⟨rfl, rfl⟩
  unfold f_X6_leastOf at hf
  refine g_iload_n C dX6_leastOf_0 rfl 0 rfl ?_
  refine g_if_ne (tgt := 9) C dX6_leastOf_1 (by decide) (fun c1 => ?_) (fun c1 => ?_)
  · have hf := (f_if hf).2 c1
    refine g_iconst (v := (1 : Int32)) C dX6_leastOf_9 (by decide) ?_
    refine g_sub (lv2 := []) [] rfl ?_
    exact h10 (1 : Int32) hf
  · have hf := (f_if hf).1 c1
    refine g_bipush (v := (10 : Int32)) C dX6_leastOf_4 (by decide) ?_
    refine g_goto (tgt := 10) C dX6_leastOf_6 (by decide) ?_
    refine g_sub (lv2 := []) [] rfl ?_
    exact h10 (10 : Int32) hf
def f_X6_mostOf (p0 : Int32) : Option (Int32) := (if p0 = (0 : Int32) then some (90 : Int32) else (if p0 = (1 : Int32) then some (40 : Int32) else (if p0 = (2 : Int32) then some (30 : Int32) else (if p0 = (3 : Int32) then some (99 : Int32) else (if p0 = (4 : Int32) then some (99 : Int32) else (if p0 = (5 : Int32) then some (999 : Int32) else (if p0 = (6 : Int32) then some (9999 : Int32) else some (99 : Int32))))))))
abbrev rm_X6_mostOf : Room := { frames := 0, cells := 0, slots := 0, locals := 0 }
set_option maxRecDepth 100000 in
theorem k_X6_mostOf : CFs yX6_mostOf cX6_mostOf 1 (some .int) 1 := ⟨mt_696, mt_13, mt_697, ⟨by decide +kernel, by decide +kernel, by decide +kernel⟩⟩
set_option maxHeartbeats 4000000 in
set_option maxRecDepth 100000 in
theorem c_X6_mostOf {E : Ev} {p0 : Int32} {o : Int32} (hf : f_X6_mostOf p0 = some o) : ∀ l, MG l yX6_mostOf cX6_mostOf 1 (some .int) rm_X6_mostOf E [.int p0] [] (fun v Y => v = some (.int o) ∧ Y = []) := by
  refine MG.mk (own := RX6) (lv0 := [(0, .int p0)]) (by decide) rfl (Nat.le_of_ble_eq_true rfl) rfl (fun X C K I => ?_)
  unfold f_X6_mostOf at hf
  refine g_iload_n C dX6_mostOf_0 rfl 0 rfl ?_
  by_cases c1 : p0 = (0 : Int32)
  · have hf := (f_if hf).1 c1
    refine g_tin (tgt := 44) C dX6_mostOf_1 (by rw [c1] <;> decide) (by rw [c1] <;> decide) (by rw [c1] <;> rfl) (by decide) ?_
    refine g_bipush (v := (90 : Int32)) C dX6_mostOf_44 (by decide) ?_
    obtain rfl := Option.some.inj hf
    exact g_iret C K dX6_mostOf_46 (Nat.le_of_ble_eq_true rfl) (Nat.le_of_ble_eq_true rfl) ⟨rfl, rfl⟩
  have hf := (f_if hf).2 c1
  by_cases c2 : p0 = (1 : Int32)
  · have hf := (f_if hf).1 c2
    refine g_tin (tgt := 47) C dX6_mostOf_1 (by rw [c2] <;> decide) (by rw [c2] <;> decide) (by rw [c2] <;> rfl) (by decide) ?_
    refine g_bipush (v := (40 : Int32)) C dX6_mostOf_47 (by decide) ?_
    obtain rfl := Option.some.inj hf
    exact g_iret C K dX6_mostOf_49 (Nat.le_of_ble_eq_true rfl) (Nat.le_of_ble_eq_true rfl) ⟨rfl, rfl⟩
  have hf := (f_if hf).2 c2
  by_cases c3 : p0 = (2 : Int32)
  · have hf := (f_if hf).1 c3
    refine g_tin (tgt := 50) C dX6_mostOf_1 (by rw [c3] <;> decide) (by rw [c3] <;> decide) (by rw [c3] <;> rfl) (by decide) ?_
    refine g_bipush (v := (30 : Int32)) C dX6_mostOf_50 (by decide) ?_
    obtain rfl := Option.some.inj hf
    exact g_iret C K dX6_mostOf_52 (Nat.le_of_ble_eq_true rfl) (Nat.le_of_ble_eq_true rfl) ⟨rfl, rfl⟩
  have hf := (f_if hf).2 c3
  by_cases c4 : p0 = (3 : Int32)
  · have hf := (f_if hf).1 c4
    refine g_tin (tgt := 61) C dX6_mostOf_1 (by rw [c4] <;> decide) (by rw [c4] <;> decide) (by rw [c4] <;> rfl) (by decide) ?_
    refine g_bipush (v := (99 : Int32)) C dX6_mostOf_61 (by decide) ?_
    obtain rfl := Option.some.inj hf
    exact g_iret C K dX6_mostOf_63 (Nat.le_of_ble_eq_true rfl) (Nat.le_of_ble_eq_true rfl) ⟨rfl, rfl⟩
  have hf := (f_if hf).2 c4
  by_cases c5 : p0 = (4 : Int32)
  · have hf := (f_if hf).1 c5
    refine g_tin (tgt := 61) C dX6_mostOf_1 (by rw [c5] <;> decide) (by rw [c5] <;> decide) (by rw [c5] <;> rfl) (by decide) ?_
    refine g_bipush (v := (99 : Int32)) C dX6_mostOf_61 (by decide) ?_
    obtain rfl := Option.some.inj hf
    exact g_iret C K dX6_mostOf_63 (Nat.le_of_ble_eq_true rfl) (Nat.le_of_ble_eq_true rfl) ⟨rfl, rfl⟩
  have hf := (f_if hf).2 c5
  by_cases c6 : p0 = (5 : Int32)
  · have hf := (f_if hf).1 c6
    refine g_tin (tgt := 53) C dX6_mostOf_1 (by rw [c6] <;> decide) (by rw [c6] <;> decide) (by rw [c6] <;> rfl) (by decide) ?_
    refine g_sipush (v := (999 : Int32)) C dX6_mostOf_53 (by decide) ?_
    obtain rfl := Option.some.inj hf
    exact g_iret C K dX6_mostOf_56 (Nat.le_of_ble_eq_true rfl) (Nat.le_of_ble_eq_true rfl) ⟨rfl, rfl⟩
  have hf := (f_if hf).2 c6
  by_cases c7 : p0 = (6 : Int32)
  · have hf := (f_if hf).1 c7
    refine g_tin (tgt := 57) C dX6_mostOf_1 (by rw [c7] <;> decide) (by rw [c7] <;> decide) (by rw [c7] <;> rfl) (by decide) ?_
    refine g_sipush (v := (9999 : Int32)) C dX6_mostOf_57 (by decide) ?_
    obtain rfl := Option.some.inj hf
    exact g_iret C K dX6_mostOf_60 (Nat.le_of_ble_eq_true rfl) (Nat.le_of_ble_eq_true rfl) ⟨rfl, rfl⟩
  have hf := (f_if hf).2 c7
  refine g_tout (tgt := 61) C dX6_mostOf_1 (by have ec1 := ne_ti (a := 0) c1 rfl; have ec2 := ne_ti (a := 1) c2 rfl; have ec3 := ne_ti (a := 2) c3 rfl; have ec4 := ne_ti (a := 3) c4 rfl; have ec5 := ne_ti (a := 4) c5 rfl; have ec6 := ne_ti (a := 5) c6 rfl; have ec7 := ne_ti (a := 6) c7 rfl; omega) (by decide) ?_
  refine g_bipush (v := (99 : Int32)) C dX6_mostOf_61 (by decide) ?_
  obtain rfl := Option.some.inj hf
  exact g_iret C K dX6_mostOf_63 (Nat.le_of_ble_eq_true rfl) (Nat.le_of_ble_eq_true rfl) ⟨rfl, rfl⟩
def b_X6_bits_4 (N : Nat) (p0 : Int32) (K : (Int32 × Int32) → Option (Int32)) (s : Int32 × Int32) : Option (Int32) := (if s.2 = 0 then some s.1 else K ((s.1 + (1 : Int32)), (s.2 &&& (s.2 - (1 : Int32)))))
def f_X6_bits (N : Nat) (p0 : Int32) : Option (Int32) := lp (b_X6_bits_4 N p0) N ((0 : Int32), p0)
abbrev rm_X6_bits : Room := { frames := 0, cells := 0, slots := 0, locals := 0 }
set_option maxRecDepth 100000 in
theorem k_X6_bits : CFs yX6_bits cX6_bits 3 (some .int) 1 := ⟨mt_815, mt_13, mt_816, ⟨by decide +kernel, by decide +kernel, by decide +kernel⟩⟩
set_option maxHeartbeats 4000000 in
set_option maxRecDepth 100000 in
theorem c_X6_bits {E : Ev} {p0 : Int32} {N : Nat} {o : Int32} (hf : f_X6_bits N p0 = some o) : ∀ l, MG l yX6_bits cX6_bits 3 (some .int) rm_X6_bits E [.int p0] [] (fun v Y => v = some (.int o) ∧ Y = []) := by
  refine MG.mk (own := RX6) (lv0 := [(0, .int p0)]) (by decide) rfl (Nat.le_of_ble_eq_true rfl) rfl (fun X C K I => ?_)
  have h4 : ∀ (n : Nat) (s : Int32 × Int32), lp (b_X6_bits_4 N p0) n s = some o → G E X 3 [] 0 0 [(1, .int s.1), (2, .int s.2)] [] 4 := lp_ind (by
    intro K4 hK4 s hf
    unfold b_X6_bits_4 at hf
    refine g_iload_n C dX6_bits_4 rfl 1 rfl ?_
    refine g_if_eq (tgt := 20) C dX6_bits_5 (by decide) (fun c1 => ?_) (fun c1 => ?_)
    · have hf := (f_if hf).1 c1
      refine g_iload_n C dX6_bits_20 rfl 0 rfl ?_
      obtain rfl := Option.some.inj hf
      exact g_iret C K dX6_bits_21 (Nat.le_of_ble_eq_true rfl) (Nat.le_of_ble_eq_true rfl) ⟨rfl, rfl⟩
    · have hf := (f_if hf).2 c1
      refine g_iinc (v := (s.1 + (1 : Int32))) (lv2 := [(1, .int (s.1 + (1 : Int32))), (2, .int s.2)]) C dX6_bits_8 0 rfl (ii (by decide)) (by decide) rfl ?_
      refine g_iload_n C dX6_bits_11 rfl 1 rfl ?_
      refine g_iload_n C dX6_bits_12 rfl 1 rfl ?_
      refine g_iconst (v := (1 : Int32)) C dX6_bits_13 (by decide) ?_
      refine g_isub C dX6_bits_14 ?_
      refine g_iand C dX6_bits_15 ?_
      refine g_istore_n (lv2 := [(2, .int (s.2 &&& (s.2 - (1 : Int32)))), (1, .int (s.1 + (1 : Int32)))]) C dX6_bits_16 rfl (by decide) rfl ?_
      refine g_goto (tgt := 4) C dX6_bits_17 (by decide) ?_
      refine g_sub (lv2 := [(1, .int (s.1 + (1 : Int32))), (2, .int (s.2 &&& (s.2 - (1 : Int32))))]) [1, 0] rfl ?_
      exact hK4 ((s.1 + (1 : Int32)), (s.2 &&& (s.2 - (1 : Int32)))) hf)
  unfold f_X6_bits at hf
  refine g_iconst (v := (0 : Int32)) C dX6_bits_0 (by decide) ?_
  refine g_istore_n (lv2 := [(1, .int (0 : Int32)), (0, .int p0)]) C dX6_bits_1 rfl (by decide) rfl ?_
  refine g_iload_n C dX6_bits_2 rfl 1 rfl ?_
  refine g_istore_n (lv2 := [(2, .int p0), (1, .int (0 : Int32)), (0, .int p0)]) C dX6_bits_3 rfl (by decide) rfl ?_
  refine g_sub (lv2 := [(1, .int (0 : Int32)), (2, .int p0)]) [1, 0] rfl ?_
  exact h4 N ((0 : Int32), p0) hf
def b_X6_record_52 (N : Nat) (V : Md) (K : (Md × Int32) → Option (Md)) (s : Md × Int32) : Option (Md) := (if (173 : Int32) ≤ s.2 then some (s.1.1, s.1.2.1, s.1.2.2.1, s.1.2.2.2.1, (s.1.2.2.2.2.1 + (1 : Int32)), s.1.2.2.2.2.2.1, s.1.2.2.2.2.2.2.1, s.1.2.2.2.2.2.2.2.1, s.1.2.2.2.2.2.2.2.2.1, s.1.2.2.2.2.2.2.2.2.2.1, s.1.2.2.2.2.2.2.2.2.2.2.1, s.1.2.2.2.2.2.2.2.2.2.2.2.1, s.1.2.2.2.2.2.2.2.2.2.2.2.2.1, s.1.2.2.2.2.2.2.2.2.2.2.2.2.2) else (ix s.2 173 (ix ((s.1.2.2.2.2.1 * (173 : Int32)) + s.2) 1038 (K ((s.1.1, (upd s.1.2.1 (Int32.toNatClampNeg ((s.1.2.2.2.2.1 * (173 : Int32)) + s.2)) (s.1.1 (Int32.toNatClampNeg s.2))), s.1.2.2.1, s.1.2.2.2.1, s.1.2.2.2.2.1, s.1.2.2.2.2.2.1, s.1.2.2.2.2.2.2.1, s.1.2.2.2.2.2.2.2.1, s.1.2.2.2.2.2.2.2.2.1, s.1.2.2.2.2.2.2.2.2.2.1, s.1.2.2.2.2.2.2.2.2.2.2.1, s.1.2.2.2.2.2.2.2.2.2.2.2.1, s.1.2.2.2.2.2.2.2.2.2.2.2.2.1, s.1.2.2.2.2.2.2.2.2.2.2.2.2.2), (s.2 + (1 : Int32)))))))
def b_X6_record_50 (N : Nat) (V : Md) (s : Md) : Option (Md) := lp (b_X6_record_52 N V) N (s, (0 : Int32))
def b_X6_record_11 (N : Nat) (V : Md) (K : (Md × Int32) → Option (Md)) (s : Md × Int32) : Option (Md) := (if (865 : Int32) ≤ s.2 then b_X6_record_50 N V (s.1.1, s.1.2.1, s.1.2.2.1, s.1.2.2.2.1, (s.1.2.2.2.2.1 - (1 : Int32)), s.1.2.2.2.2.2.1, s.1.2.2.2.2.2.2.1, s.1.2.2.2.2.2.2.2.1, s.1.2.2.2.2.2.2.2.2.1, s.1.2.2.2.2.2.2.2.2.2.1, s.1.2.2.2.2.2.2.2.2.2.2.1, s.1.2.2.2.2.2.2.2.2.2.2.2.1, s.1.2.2.2.2.2.2.2.2.2.2.2.2.1, s.1.2.2.2.2.2.2.2.2.2.2.2.2.2) else (ix (s.2 + (173 : Int32)) 1038 (ix s.2 1038 (K ((s.1.1, (upd s.1.2.1 (Int32.toNatClampNeg s.2) (s.1.2.1 (Int32.toNatClampNeg (s.2 + (173 : Int32))))), s.1.2.2.1, s.1.2.2.2.1, s.1.2.2.2.2.1, s.1.2.2.2.2.2.1, s.1.2.2.2.2.2.2.1, s.1.2.2.2.2.2.2.2.1, s.1.2.2.2.2.2.2.2.2.1, s.1.2.2.2.2.2.2.2.2.2.1, s.1.2.2.2.2.2.2.2.2.2.2.1, s.1.2.2.2.2.2.2.2.2.2.2.2.1, s.1.2.2.2.2.2.2.2.2.2.2.2.2.1, s.1.2.2.2.2.2.2.2.2.2.2.2.2.2), (s.2 + (1 : Int32)))))))
def f_X6_record (N : Nat) (V : Md) : Option (Md) := (if V.2.2.2.2.1 = (6 : Int32) then lp (b_X6_record_11 N V) N (V, (0 : Int32)) else b_X6_record_50 N V V)
abbrev rm_X6_record : Room := { frames := 0, cells := 0, slots := 0, locals := 0 }
set_option maxRecDepth 100000 in
theorem k_X6_record : CF yX6_record cX6_record 2 (Option.none : Option FieldType) 0 := ⟨mt_649, mp_25, mt_13, mt_650, ⟨rfl, by decide +kernel, by decide +kernel, by decide +kernel⟩⟩
set_option maxHeartbeats 4000000 in
set_option maxRecDepth 100000 in
theorem c_X6_record {E : Ev} {a : Nat → Nat} {V : Md} {N : Nat} {o : Md} (hf : f_X6_record N V = some o) : ∀ l, MG l yX6_record cX6_record 2 (Option.none : Option FieldType) rm_X6_record E [.ref (a 0)] [md E a V] (fun v Y => v = none ∧ Y = [md E a o]) := by
  refine MG.mk (own := RX6) (lv0 := [(0, .ref (a 0))]) (by decide) rfl (Nat.le_of_ble_eq_true rfl) rfl (fun X C K I => ?_)
  have h52 : ∀ (n : Nat) (s : Md × Int32), lp (b_X6_record_52 N V) n s = some o → G E X 2 [md E a s.1] 0 0 [(0, .ref (a 0)), (1, .int s.2)] [] 52 := lp_ind (by
    intro K52 hK52 s hf
    unfold b_X6_record_52 at hf
    refine g_iload_n C dX6_record_52 rfl 1 rfl ?_
    refine g_sipush (v := (173 : Int32)) C dX6_record_53 (by decide) ?_
    refine g_icmp_ge (tgt := 86) C dX6_record_56 (by decide) (fun c1 => ?_) (fun c1 => ?_)
    · have hf := (f_if hf).1 c1
      refine g_aload_n C dX6_record_86 rfl 0 rfl ?_
      refine g_dup C dX6_record_87 rfl ?_
      refine g_get (Cl := RX6) (T := TX6) (N := 14) C mi_X6 0 rfl (List.mem_of_getElem? (i := 0) rfl) rfl 4 (by decide) mt_593 rfl rfl dX6_record_88 ?_
      refine g_iconst (v := (1 : Int32)) C dX6_record_91 (by decide) ?_
      refine g_iadd C dX6_record_92 ?_
      refine g_put (Cl := RX6) (T := TX6) (N := 14) (Y2 := [md E a (s.1.1, s.1.2.1, s.1.2.2.1, s.1.2.2.2.1, (s.1.2.2.2.2.1 + (1 : Int32)), s.1.2.2.2.2.2.1, s.1.2.2.2.2.2.2.1, s.1.2.2.2.2.2.2.2.1, s.1.2.2.2.2.2.2.2.2.1, s.1.2.2.2.2.2.2.2.2.2.1, s.1.2.2.2.2.2.2.2.2.2.2.1, s.1.2.2.2.2.2.2.2.2.2.2.2.1, s.1.2.2.2.2.2.2.2.2.2.2.2.2.1, s.1.2.2.2.2.2.2.2.2.2.2.2.2.2)]) C mi_X6 tyX6_ok nmX6 0 0 rfl rfl rfl 4 (by decide) mt_593 rfl rfl rfl rfl rfl (Nat.le_of_ble_eq_true rfl) dX6_record_93 rfl ?_
      obtain rfl := Option.some.inj hf
      exact g_ret C K dX6_record_96 (Nat.le_of_ble_eq_true rfl) (Nat.le_of_ble_eq_true rfl) ⟨rfl, rfl⟩
    · have hf := (f_if hf).2 c1
      refine g_aload_n C dX6_record_59 rfl 0 rfl ?_
      refine g_get (Cl := RX6) (T := TX6) (N := 14) C mi_X6 0 rfl (List.mem_of_getElem? (i := 0) rfl) rfl 1 (by decide) mt_590 rfl rfl dX6_record_60 ?_
      refine g_aload_n C dX6_record_63 rfl 0 rfl ?_
      refine g_get (Cl := RX6) (T := TX6) (N := 14) C mi_X6 0 rfl (List.mem_of_getElem? (i := 0) rfl) rfl 4 (by decide) mt_593 rfl rfl dX6_record_64 ?_
      refine g_sipush (v := (173 : Int32)) C dX6_record_67 (by decide) ?_
      refine g_imul C dX6_record_70 ?_
      refine g_iload_n C dX6_record_71 rfl 1 rfl ?_
      refine g_iadd C dX6_record_72 ?_
      refine g_aload_n C dX6_record_73 rfl 0 rfl ?_
      refine g_get (Cl := RX6) (T := TX6) (N := 14) C mi_X6 0 rfl (List.mem_of_getElem? (i := 0) rfl) rfl 0 (by decide) mt_589 rfl rfl dX6_record_74 ?_
      refine g_iload_n C dX6_record_77 rfl 1 rfl ?_
      obtain ⟨i2, hf⟩ := ix_s hf
      refine g_iald C 0 rfl (List.mem_of_getElem? (i := 1) rfl) i2 dX6_record_78 ?_
      obtain ⟨i3, hf⟩ := ix_s hf
      refine g_iast (Y2 := [md E a (s.1.1, (upd s.1.2.1 (Int32.toNatClampNeg ((s.1.2.2.2.2.1 * (173 : Int32)) + s.2)) (s.1.1 (Int32.toNatClampNeg s.2))), s.1.2.2.1, s.1.2.2.2.1, s.1.2.2.2.2.1, s.1.2.2.2.2.2.1, s.1.2.2.2.2.2.2.1, s.1.2.2.2.2.2.2.2.1, s.1.2.2.2.2.2.2.2.2.1, s.1.2.2.2.2.2.2.2.2.2.1, s.1.2.2.2.2.2.2.2.2.2.2.1, s.1.2.2.2.2.2.2.2.2.2.2.2.1, s.1.2.2.2.2.2.2.2.2.2.2.2.2.1, s.1.2.2.2.2.2.2.2.2.2.2.2.2.2)]) C 0 2 rfl rfl i3 dX6_record_79 rfl ?_
      refine g_iinc (v := (s.2 + (1 : Int32))) (lv2 := [(1, .int (s.2 + (1 : Int32))), (0, .ref (a 0))]) C dX6_record_80 1 rfl (ii (by decide)) (by decide) rfl ?_
      refine g_goto (tgt := 52) C dX6_record_83 (by decide) ?_
      refine g_sub (lv2 := [(0, .ref (a 0)), (1, .int (s.2 + (1 : Int32)))]) [1, 0] rfl ?_
      exact hK52 ((s.1.1, (upd s.1.2.1 (Int32.toNatClampNeg ((s.1.2.2.2.2.1 * (173 : Int32)) + s.2)) (s.1.1 (Int32.toNatClampNeg s.2))), s.1.2.2.1, s.1.2.2.2.1, s.1.2.2.2.2.1, s.1.2.2.2.2.2.1, s.1.2.2.2.2.2.2.1, s.1.2.2.2.2.2.2.2.1, s.1.2.2.2.2.2.2.2.2.1, s.1.2.2.2.2.2.2.2.2.2.1, s.1.2.2.2.2.2.2.2.2.2.2.1, s.1.2.2.2.2.2.2.2.2.2.2.2.1, s.1.2.2.2.2.2.2.2.2.2.2.2.2.1, s.1.2.2.2.2.2.2.2.2.2.2.2.2.2), (s.2 + (1 : Int32))) hf)
  have h50 : ∀ s : Md, b_X6_record_50 N V s = some o → G E X 2 [md E a s] 0 0 [(0, .ref (a 0))] [] 50 := by
    intro s hf
    unfold b_X6_record_50 at hf
    refine g_iconst (v := (0 : Int32)) C dX6_record_50 (by decide) ?_
    refine g_istore_n (lv2 := [(1, .int (0 : Int32)), (0, .ref (a 0))]) C dX6_record_51 rfl (by decide) rfl ?_
    refine g_sub (lv2 := [(0, .ref (a 0)), (1, .int (0 : Int32))]) [1, 0] rfl ?_
    exact h52 N (s, (0 : Int32)) hf
  have h11 : ∀ (n : Nat) (s : Md × Int32), lp (b_X6_record_11 N V) n s = some o → G E X 2 [md E a s.1] 0 0 [(0, .ref (a 0)), (1, .int s.2)] [] 11 := lp_ind (by
    intro K11 hK11 s hf
    unfold b_X6_record_11 at hf
    refine g_iload_n C dX6_record_11 rfl 1 rfl ?_
    refine g_sipush (v := (865 : Int32)) C dX6_record_12 (by decide) ?_
    refine g_icmp_ge (tgt := 40) C dX6_record_15 (by decide) (fun c4 => ?_) (fun c4 => ?_)
    · have hf := (f_if hf).1 c4
      refine g_aload_n C dX6_record_40 rfl 0 rfl ?_
      refine g_dup C dX6_record_41 rfl ?_
      refine g_get (Cl := RX6) (T := TX6) (N := 14) C mi_X6 0 rfl (List.mem_of_getElem? (i := 0) rfl) rfl 4 (by decide) mt_593 rfl rfl dX6_record_42 ?_
      refine g_iconst (v := (1 : Int32)) C dX6_record_45 (by decide) ?_
      refine g_isub C dX6_record_46 ?_
      refine g_put (Cl := RX6) (T := TX6) (N := 14) (Y2 := [md E a (s.1.1, s.1.2.1, s.1.2.2.1, s.1.2.2.2.1, (s.1.2.2.2.2.1 - (1 : Int32)), s.1.2.2.2.2.2.1, s.1.2.2.2.2.2.2.1, s.1.2.2.2.2.2.2.2.1, s.1.2.2.2.2.2.2.2.2.1, s.1.2.2.2.2.2.2.2.2.2.1, s.1.2.2.2.2.2.2.2.2.2.2.1, s.1.2.2.2.2.2.2.2.2.2.2.2.1, s.1.2.2.2.2.2.2.2.2.2.2.2.2.1, s.1.2.2.2.2.2.2.2.2.2.2.2.2.2)]) C mi_X6 tyX6_ok nmX6 0 0 rfl rfl rfl 4 (by decide) mt_593 rfl rfl rfl rfl rfl (Nat.le_of_ble_eq_true rfl) dX6_record_47 rfl ?_
      refine g_sub (lv2 := [(0, .ref (a 0))]) [0] rfl ?_
      exact h50 (s.1.1, s.1.2.1, s.1.2.2.1, s.1.2.2.2.1, (s.1.2.2.2.2.1 - (1 : Int32)), s.1.2.2.2.2.2.1, s.1.2.2.2.2.2.2.1, s.1.2.2.2.2.2.2.2.1, s.1.2.2.2.2.2.2.2.2.1, s.1.2.2.2.2.2.2.2.2.2.1, s.1.2.2.2.2.2.2.2.2.2.2.1, s.1.2.2.2.2.2.2.2.2.2.2.2.1, s.1.2.2.2.2.2.2.2.2.2.2.2.2.1, s.1.2.2.2.2.2.2.2.2.2.2.2.2.2) hf
    · have hf := (f_if hf).2 c4
      refine g_aload_n C dX6_record_18 rfl 0 rfl ?_
      refine g_get (Cl := RX6) (T := TX6) (N := 14) C mi_X6 0 rfl (List.mem_of_getElem? (i := 0) rfl) rfl 1 (by decide) mt_590 rfl rfl dX6_record_19 ?_
      refine g_iload_n C dX6_record_22 rfl 1 rfl ?_
      refine g_aload_n C dX6_record_23 rfl 0 rfl ?_
      refine g_get (Cl := RX6) (T := TX6) (N := 14) C mi_X6 0 rfl (List.mem_of_getElem? (i := 0) rfl) rfl 1 (by decide) mt_590 rfl rfl dX6_record_24 ?_
      refine g_iload_n C dX6_record_27 rfl 1 rfl ?_
      refine g_sipush (v := (173 : Int32)) C dX6_record_28 (by decide) ?_
      refine g_iadd C dX6_record_31 ?_
      obtain ⟨i5, hf⟩ := ix_s hf
      refine g_iald C 0 rfl (List.mem_of_getElem? (i := 2) rfl) i5 dX6_record_32 ?_
      obtain ⟨i6, hf⟩ := ix_s hf
      refine g_iast (Y2 := [md E a (s.1.1, (upd s.1.2.1 (Int32.toNatClampNeg s.2) (s.1.2.1 (Int32.toNatClampNeg (s.2 + (173 : Int32))))), s.1.2.2.1, s.1.2.2.2.1, s.1.2.2.2.2.1, s.1.2.2.2.2.2.1, s.1.2.2.2.2.2.2.1, s.1.2.2.2.2.2.2.2.1, s.1.2.2.2.2.2.2.2.2.1, s.1.2.2.2.2.2.2.2.2.2.1, s.1.2.2.2.2.2.2.2.2.2.2.1, s.1.2.2.2.2.2.2.2.2.2.2.2.1, s.1.2.2.2.2.2.2.2.2.2.2.2.2.1, s.1.2.2.2.2.2.2.2.2.2.2.2.2.2)]) C 0 2 rfl rfl i6 dX6_record_33 rfl ?_
      refine g_iinc (v := (s.2 + (1 : Int32))) (lv2 := [(1, .int (s.2 + (1 : Int32))), (0, .ref (a 0))]) C dX6_record_34 1 rfl (ii (by decide)) (by decide) rfl ?_
      refine g_goto (tgt := 11) C dX6_record_37 (by decide) ?_
      refine g_sub (lv2 := [(0, .ref (a 0)), (1, .int (s.2 + (1 : Int32)))]) [1, 0] rfl ?_
      exact hK11 ((s.1.1, (upd s.1.2.1 (Int32.toNatClampNeg s.2) (s.1.2.1 (Int32.toNatClampNeg (s.2 + (173 : Int32))))), s.1.2.2.1, s.1.2.2.2.1, s.1.2.2.2.2.1, s.1.2.2.2.2.2.1, s.1.2.2.2.2.2.2.1, s.1.2.2.2.2.2.2.2.1, s.1.2.2.2.2.2.2.2.2.1, s.1.2.2.2.2.2.2.2.2.2.1, s.1.2.2.2.2.2.2.2.2.2.2.1, s.1.2.2.2.2.2.2.2.2.2.2.2.1, s.1.2.2.2.2.2.2.2.2.2.2.2.2.1, s.1.2.2.2.2.2.2.2.2.2.2.2.2.2), (s.2 + (1 : Int32))) hf)
  unfold f_X6_record at hf
  refine g_aload_n C dX6_record_0 rfl 0 rfl ?_
  refine g_get (Cl := RX6) (T := TX6) (N := 14) C mi_X6 0 rfl (List.mem_of_getElem? (i := 0) rfl) rfl 4 (by decide) mt_593 rfl rfl dX6_record_1 ?_
  refine g_bipush (v := (6 : Int32)) C dX6_record_4 (by decide) ?_
  refine g_icmp_ne (tgt := 50) C dX6_record_6 (by decide) (fun c7 => ?_) (fun c7 => ?_)
  · have hf := (f_if hf).2 c7
    exact h50 V hf
  · have hf := (f_if hf).1 c7
    refine g_iconst (v := (0 : Int32)) C dX6_record_9 (by decide) ?_
    refine g_istore_n (lv2 := [(1, .int (0 : Int32)), (0, .ref (a 0))]) C dX6_record_10 rfl (by decide) rfl ?_
    refine g_sub (lv2 := [(0, .ref (a 0)), (1, .int (0 : Int32))]) [1, 0] rfl ?_
    exact h11 N (V, (0 : Int32)) hf
def b_X6_putAside_2 (N : Nat) (V : Md) (K : (Md × Int32) → Option (Md)) (s : Md × Int32) : Option (Md) := (if (173 : Int32) ≤ s.2 then some s.1 else (ix s.2 173 (ix s.2 173 (K ((s.1.1, s.1.2.1, s.1.2.2.1, s.1.2.2.2.1, s.1.2.2.2.2.1, (upd s.1.2.2.2.2.2.1 (Int32.toNatClampNeg s.2) (s.1.1 (Int32.toNatClampNeg s.2))), s.1.2.2.2.2.2.2.1, s.1.2.2.2.2.2.2.2.1, s.1.2.2.2.2.2.2.2.2.1, s.1.2.2.2.2.2.2.2.2.2.1, s.1.2.2.2.2.2.2.2.2.2.2.1, s.1.2.2.2.2.2.2.2.2.2.2.2.1, s.1.2.2.2.2.2.2.2.2.2.2.2.2.1, s.1.2.2.2.2.2.2.2.2.2.2.2.2.2), (s.2 + (1 : Int32)))))))
def f_X6_putAside (N : Nat) (V : Md) : Option (Md) := lp (b_X6_putAside_2 N V) N (V, (0 : Int32))
abbrev rm_X6_putAside : Room := { frames := 0, cells := 0, slots := 0, locals := 0 }
set_option maxRecDepth 100000 in
theorem k_X6_putAside : CF yX6_putAside cX6_putAside 2 (Option.none : Option FieldType) 0 := ⟨mt_792, mp_44, mt_13, mt_793, ⟨rfl, by decide +kernel, by decide +kernel, by decide +kernel⟩⟩
set_option maxHeartbeats 4000000 in
set_option maxRecDepth 100000 in
theorem c_X6_putAside {E : Ev} {a : Nat → Nat} {V : Md} {N : Nat} {o : Md} (hf : f_X6_putAside N V = some o) : ∀ l, MG l yX6_putAside cX6_putAside 2 (Option.none : Option FieldType) rm_X6_putAside E [.ref (a 0)] [md E a V] (fun v Y => v = none ∧ Y = [md E a o]) := by
  refine MG.mk (own := RX6) (lv0 := [(0, .ref (a 0))]) (by decide) rfl (Nat.le_of_ble_eq_true rfl) rfl (fun X C K I => ?_)
  have h2 : ∀ (n : Nat) (s : Md × Int32), lp (b_X6_putAside_2 N V) n s = some o → G E X 2 [md E a s.1] 0 0 [(0, .ref (a 0)), (1, .int s.2)] [] 2 := lp_ind (by
    intro K2 hK2 s hf
    unfold b_X6_putAside_2 at hf
    refine g_iload_n C dX6_putAside_2 rfl 1 rfl ?_
    refine g_sipush (v := (173 : Int32)) C dX6_putAside_3 (by decide) ?_
    refine g_icmp_ge (tgt := 27) C dX6_putAside_6 (by decide) (fun c1 => ?_) (fun c1 => ?_)
    · have hf := (f_if hf).1 c1
      obtain rfl := Option.some.inj hf
      exact g_ret C K dX6_putAside_27 (Nat.le_of_ble_eq_true rfl) (Nat.le_of_ble_eq_true rfl) ⟨rfl, rfl⟩
    · have hf := (f_if hf).2 c1
      refine g_aload_n C dX6_putAside_9 rfl 0 rfl ?_
      refine g_get (Cl := RX6) (T := TX6) (N := 14) C mi_X6 0 rfl (List.mem_of_getElem? (i := 0) rfl) rfl 5 (by decide) mt_594 rfl rfl dX6_putAside_10 ?_
      refine g_iload_n C dX6_putAside_13 rfl 1 rfl ?_
      refine g_aload_n C dX6_putAside_14 rfl 0 rfl ?_
      refine g_get (Cl := RX6) (T := TX6) (N := 14) C mi_X6 0 rfl (List.mem_of_getElem? (i := 0) rfl) rfl 0 (by decide) mt_589 rfl rfl dX6_putAside_15 ?_
      refine g_iload_n C dX6_putAside_18 rfl 1 rfl ?_
      obtain ⟨i2, hf⟩ := ix_s hf
      refine g_iald C 0 rfl (List.mem_of_getElem? (i := 1) rfl) i2 dX6_putAside_19 ?_
      obtain ⟨i3, hf⟩ := ix_s hf
      refine g_iast (Y2 := [md E a (s.1.1, s.1.2.1, s.1.2.2.1, s.1.2.2.2.1, s.1.2.2.2.2.1, (upd s.1.2.2.2.2.2.1 (Int32.toNatClampNeg s.2) (s.1.1 (Int32.toNatClampNeg s.2))), s.1.2.2.2.2.2.2.1, s.1.2.2.2.2.2.2.2.1, s.1.2.2.2.2.2.2.2.2.1, s.1.2.2.2.2.2.2.2.2.2.1, s.1.2.2.2.2.2.2.2.2.2.2.1, s.1.2.2.2.2.2.2.2.2.2.2.2.1, s.1.2.2.2.2.2.2.2.2.2.2.2.2.1, s.1.2.2.2.2.2.2.2.2.2.2.2.2.2)]) C 0 5 rfl rfl i3 dX6_putAside_20 rfl ?_
      refine g_iinc (v := (s.2 + (1 : Int32))) (lv2 := [(1, .int (s.2 + (1 : Int32))), (0, .ref (a 0))]) C dX6_putAside_21 1 rfl (ii (by decide)) (by decide) rfl ?_
      refine g_goto (tgt := 2) C dX6_putAside_24 (by decide) ?_
      refine g_sub (lv2 := [(0, .ref (a 0)), (1, .int (s.2 + (1 : Int32)))]) [1, 0] rfl ?_
      exact hK2 ((s.1.1, s.1.2.1, s.1.2.2.1, s.1.2.2.2.1, s.1.2.2.2.2.1, (upd s.1.2.2.2.2.2.1 (Int32.toNatClampNeg s.2) (s.1.1 (Int32.toNatClampNeg s.2))), s.1.2.2.2.2.2.2.1, s.1.2.2.2.2.2.2.2.1, s.1.2.2.2.2.2.2.2.2.1, s.1.2.2.2.2.2.2.2.2.2.1, s.1.2.2.2.2.2.2.2.2.2.2.1, s.1.2.2.2.2.2.2.2.2.2.2.2.1, s.1.2.2.2.2.2.2.2.2.2.2.2.2.1, s.1.2.2.2.2.2.2.2.2.2.2.2.2.2), (s.2 + (1 : Int32))) hf)
  unfold f_X6_putAside at hf
  refine g_iconst (v := (0 : Int32)) C dX6_putAside_0 (by decide) ?_
  refine g_istore_n (lv2 := [(1, .int (0 : Int32)), (0, .ref (a 0))]) C dX6_putAside_1 rfl (by decide) rfl ?_
  refine g_sub (lv2 := [(0, .ref (a 0)), (1, .int (0 : Int32))]) [1, 0] rfl ?_
  exact h2 N (V, (0 : Int32)) hf
def b_X6_bringBack_2 (N : Nat) (V : Md) (K : (Md × Int32) → Option (Md)) (s : Md × Int32) : Option (Md) := (if (173 : Int32) ≤ s.2 then some s.1 else (ix s.2 173 (ix s.2 173 (K (((upd s.1.1 (Int32.toNatClampNeg s.2) (s.1.2.2.2.2.2.1 (Int32.toNatClampNeg s.2))), s.1.2.1, s.1.2.2.1, s.1.2.2.2.1, s.1.2.2.2.2.1, s.1.2.2.2.2.2.1, s.1.2.2.2.2.2.2.1, s.1.2.2.2.2.2.2.2.1, s.1.2.2.2.2.2.2.2.2.1, s.1.2.2.2.2.2.2.2.2.2.1, s.1.2.2.2.2.2.2.2.2.2.2.1, s.1.2.2.2.2.2.2.2.2.2.2.2.1, s.1.2.2.2.2.2.2.2.2.2.2.2.2.1, s.1.2.2.2.2.2.2.2.2.2.2.2.2.2), (s.2 + (1 : Int32)))))))
def f_X6_bringBack (N : Nat) (V : Md) : Option (Md) := lp (b_X6_bringBack_2 N V) N (V, (0 : Int32))
abbrev rm_X6_bringBack : Room := { frames := 0, cells := 0, slots := 0, locals := 0 }
set_option maxRecDepth 100000 in
theorem k_X6_bringBack : CF yX6_bringBack cX6_bringBack 2 (Option.none : Option FieldType) 0 := ⟨mt_796, mp_45, mt_13, mt_797, ⟨rfl, by decide +kernel, by decide +kernel, by decide +kernel⟩⟩
set_option maxHeartbeats 4000000 in
set_option maxRecDepth 100000 in
theorem c_X6_bringBack {E : Ev} {a : Nat → Nat} {V : Md} {N : Nat} {o : Md} (hf : f_X6_bringBack N V = some o) : ∀ l, MG l yX6_bringBack cX6_bringBack 2 (Option.none : Option FieldType) rm_X6_bringBack E [.ref (a 0)] [md E a V] (fun v Y => v = none ∧ Y = [md E a o]) := by
  refine MG.mk (own := RX6) (lv0 := [(0, .ref (a 0))]) (by decide) rfl (Nat.le_of_ble_eq_true rfl) rfl (fun X C K I => ?_)
  have h2 : ∀ (n : Nat) (s : Md × Int32), lp (b_X6_bringBack_2 N V) n s = some o → G E X 2 [md E a s.1] 0 0 [(0, .ref (a 0)), (1, .int s.2)] [] 2 := lp_ind (by
    intro K2 hK2 s hf
    unfold b_X6_bringBack_2 at hf
    refine g_iload_n C dX6_bringBack_2 rfl 1 rfl ?_
    refine g_sipush (v := (173 : Int32)) C dX6_bringBack_3 (by decide) ?_
    refine g_icmp_ge (tgt := 27) C dX6_bringBack_6 (by decide) (fun c1 => ?_) (fun c1 => ?_)
    · have hf := (f_if hf).1 c1
      obtain rfl := Option.some.inj hf
      exact g_ret C K dX6_bringBack_27 (Nat.le_of_ble_eq_true rfl) (Nat.le_of_ble_eq_true rfl) ⟨rfl, rfl⟩
    · have hf := (f_if hf).2 c1
      refine g_aload_n C dX6_bringBack_9 rfl 0 rfl ?_
      refine g_get (Cl := RX6) (T := TX6) (N := 14) C mi_X6 0 rfl (List.mem_of_getElem? (i := 0) rfl) rfl 0 (by decide) mt_589 rfl rfl dX6_bringBack_10 ?_
      refine g_iload_n C dX6_bringBack_13 rfl 1 rfl ?_
      refine g_aload_n C dX6_bringBack_14 rfl 0 rfl ?_
      refine g_get (Cl := RX6) (T := TX6) (N := 14) C mi_X6 0 rfl (List.mem_of_getElem? (i := 0) rfl) rfl 5 (by decide) mt_594 rfl rfl dX6_bringBack_15 ?_
      refine g_iload_n C dX6_bringBack_18 rfl 1 rfl ?_
      obtain ⟨i2, hf⟩ := ix_s hf
      refine g_iald C 0 rfl (List.mem_of_getElem? (i := 5) rfl) i2 dX6_bringBack_19 ?_
      obtain ⟨i3, hf⟩ := ix_s hf
      refine g_iast (Y2 := [md E a ((upd s.1.1 (Int32.toNatClampNeg s.2) (s.1.2.2.2.2.2.1 (Int32.toNatClampNeg s.2))), s.1.2.1, s.1.2.2.1, s.1.2.2.2.1, s.1.2.2.2.2.1, s.1.2.2.2.2.2.1, s.1.2.2.2.2.2.2.1, s.1.2.2.2.2.2.2.2.1, s.1.2.2.2.2.2.2.2.2.1, s.1.2.2.2.2.2.2.2.2.2.1, s.1.2.2.2.2.2.2.2.2.2.2.1, s.1.2.2.2.2.2.2.2.2.2.2.2.1, s.1.2.2.2.2.2.2.2.2.2.2.2.2.1, s.1.2.2.2.2.2.2.2.2.2.2.2.2.2)]) C 0 1 rfl rfl i3 dX6_bringBack_20 rfl ?_
      refine g_iinc (v := (s.2 + (1 : Int32))) (lv2 := [(1, .int (s.2 + (1 : Int32))), (0, .ref (a 0))]) C dX6_bringBack_21 1 rfl (ii (by decide)) (by decide) rfl ?_
      refine g_goto (tgt := 2) C dX6_bringBack_24 (by decide) ?_
      refine g_sub (lv2 := [(0, .ref (a 0)), (1, .int (s.2 + (1 : Int32)))]) [1, 0] rfl ?_
      exact hK2 (((upd s.1.1 (Int32.toNatClampNeg s.2) (s.1.2.2.2.2.2.1 (Int32.toNatClampNeg s.2))), s.1.2.1, s.1.2.2.1, s.1.2.2.2.1, s.1.2.2.2.2.1, s.1.2.2.2.2.2.1, s.1.2.2.2.2.2.2.1, s.1.2.2.2.2.2.2.2.1, s.1.2.2.2.2.2.2.2.2.1, s.1.2.2.2.2.2.2.2.2.2.1, s.1.2.2.2.2.2.2.2.2.2.2.1, s.1.2.2.2.2.2.2.2.2.2.2.2.1, s.1.2.2.2.2.2.2.2.2.2.2.2.2.1, s.1.2.2.2.2.2.2.2.2.2.2.2.2.2), (s.2 + (1 : Int32))) hf)
  unfold f_X6_bringBack at hf
  refine g_iconst (v := (0 : Int32)) C dX6_bringBack_0 (by decide) ?_
  refine g_istore_n (lv2 := [(1, .int (0 : Int32)), (0, .ref (a 0))]) C dX6_bringBack_1 rfl (by decide) rfl ?_
  refine g_sub (lv2 := [(0, .ref (a 0)), (1, .int (0 : Int32))]) [1, 0] rfl ?_
  exact h2 N (V, (0 : Int32)) hf
def b_X6_join_193 (V : Md) (s : Md × Int32 × Int32 × Int32) : Option (Md) := (ix s.2.1 64 (some (s.1.1, s.1.2.1, s.1.2.2.1, s.1.2.2.2.1, s.1.2.2.2.2.1, s.1.2.2.2.2.2.1, s.1.2.2.2.2.2.2.1, s.1.2.2.2.2.2.2.2.1, s.1.2.2.2.2.2.2.2.2.1, (upd s.1.2.2.2.2.2.2.2.2.2.1 (Int32.toNatClampNeg s.2.1) (s.2.2.1 + s.2.2.2)), s.1.2.2.2.2.2.2.2.2.2.2.1, (s.1.2.2.2.2.2.2.2.2.2.2.2.1 - (1 : Int32)), s.1.2.2.2.2.2.2.2.2.2.2.2.2.1, s.1.2.2.2.2.2.2.2.2.2.2.2.2.2)))
def b_X6_join_156 (V : Md) (s : Md × Int32 × Int32 × Int32 × Int32) : Option (Md) := (ix s.2.2.2.1 64 (ix s.2.2.1 64 (ix s.2.1 64 (if (s.1.2.2.2.2.2.2.2.2.2.1 (Int32.toNatClampNeg s.2.2.1)) ≤ (s.1.2.2.2.2.2.2.2.2.2.1 (Int32.toNatClampNeg s.2.1)) then (ix s.2.1 64 (b_X6_join_193 V ((s.1.1, s.1.2.1, s.1.2.2.1, s.1.2.2.2.1, s.1.2.2.2.2.1, s.1.2.2.2.2.2.1, s.1.2.2.2.2.2.2.1, s.1.2.2.2.2.2.2.2.1, (upd s.1.2.2.2.2.2.2.2.2.1 (Int32.toNatClampNeg s.2.2.2.1) (vp_nar .boolean s.2.2.2.2)), s.1.2.2.2.2.2.2.2.2.2.1, s.1.2.2.2.2.2.2.2.2.2.2.1, s.1.2.2.2.2.2.2.2.2.2.2.2.1, s.1.2.2.2.2.2.2.2.2.2.2.2.2.1, s.1.2.2.2.2.2.2.2.2.2.2.2.2.2), s.2.2.1, (1 : Int32), (s.1.2.2.2.2.2.2.2.2.2.1 (Int32.toNatClampNeg s.2.1))))) else (ix s.2.2.1 64 (b_X6_join_193 V ((s.1.1, s.1.2.1, s.1.2.2.1, s.1.2.2.2.1, s.1.2.2.2.2.1, s.1.2.2.2.2.2.1, s.1.2.2.2.2.2.2.1, s.1.2.2.2.2.2.2.2.1, (upd s.1.2.2.2.2.2.2.2.2.1 (Int32.toNatClampNeg s.2.2.2.1) (vp_nar .boolean s.2.2.2.2)), s.1.2.2.2.2.2.2.2.2.2.1, s.1.2.2.2.2.2.2.2.2.2.2.1, s.1.2.2.2.2.2.2.2.2.2.2.2.1, s.1.2.2.2.2.2.2.2.2.2.2.2.2.1, s.1.2.2.2.2.2.2.2.2.2.2.2.2.2), s.2.2.1, (1 : Int32), (s.1.2.2.2.2.2.2.2.2.2.1 (Int32.toNatClampNeg s.2.2.1)))))))))
def b_X6_join_128 (V : Md) (s : Md × Int32 × Int32 × Int32 × Int32 × Int32 × Int32 × Int32) : Option (Md) := (ix s.2.2.2.2.1 64 (if s.2.2.2.1 = 0 then (ix s.2.2.1 64 (b_X6_join_156 V ((s.1.1, s.1.2.1, s.1.2.2.1, s.1.2.2.2.1, s.1.2.2.2.2.1, s.1.2.2.2.2.2.1, s.1.2.2.2.2.2.2.1, s.1.2.2.2.2.2.2.2.1, s.1.2.2.2.2.2.2.2.2.1, s.1.2.2.2.2.2.2.2.2.2.1, (upd s.1.2.2.2.2.2.2.2.2.2.2.1 (Int32.toNatClampNeg s.2.2.2.2.1) (s.2.2.2.2.2.1 + (s.2.2.2.2.2.2.1 + s.2.2.2.2.2.2.2))), s.1.2.2.2.2.2.2.2.2.2.2.2.1, s.1.2.2.2.2.2.2.2.2.2.2.2.2.1, s.1.2.2.2.2.2.2.2.2.2.2.2.2.2), s.2.1, s.2.2.1, s.2.2.1, (s.1.2.2.2.2.2.2.2.2.1 (Int32.toNatClampNeg s.2.2.1))))) else (ix s.2.1 64 (b_X6_join_156 V ((s.1.1, s.1.2.1, s.1.2.2.1, s.1.2.2.2.1, s.1.2.2.2.2.1, s.1.2.2.2.2.2.1, s.1.2.2.2.2.2.2.1, s.1.2.2.2.2.2.2.2.1, s.1.2.2.2.2.2.2.2.2.1, s.1.2.2.2.2.2.2.2.2.2.1, (upd s.1.2.2.2.2.2.2.2.2.2.2.1 (Int32.toNatClampNeg s.2.2.2.2.1) (s.2.2.2.2.2.1 + (s.2.2.2.2.2.2.1 + s.2.2.2.2.2.2.2))), s.1.2.2.2.2.2.2.2.2.2.2.2.1, s.1.2.2.2.2.2.2.2.2.2.2.2.2.1, s.1.2.2.2.2.2.2.2.2.2.2.2.2.2), s.2.1, s.2.2.1, s.2.2.1, (s.1.2.2.2.2.2.2.2.2.1 (Int32.toNatClampNeg s.2.1)))))))
def b_X6_join_103 (V : Md) (s : Md × Int32 × Int32 × Int32) : Option (Md) := (ix s.2.2.1 64 (if s.2.2.2 = 0 then b_X6_join_128 V (s.1, s.2.1, s.2.2.1, s.2.2.2, s.2.2.1, (s.1.2.2.2.2.2.2.2.2.2.2.1 (Int32.toNatClampNeg s.2.2.1)), (1 : Int32), (0 : Int32)) else (ix s.2.1 64 (b_X6_join_128 V (s.1, s.2.1, s.2.2.1, s.2.2.2, s.2.2.1, (s.1.2.2.2.2.2.2.2.2.2.2.1 (Int32.toNatClampNeg s.2.2.1)), (1 : Int32), (s.1.2.2.2.2.2.2.2.2.2.2.1 (Int32.toNatClampNeg s.2.1)))))))
def b_X6_join_95 (V : Md) (s : Md × Int32 × Int32 × Int32 × Int32) : Option (Md) := (if s.2.2.2.1 = s.2.2.2.2 then b_X6_join_103 V (s.1, s.2.1, s.2.2.1, (1 : Int32)) else b_X6_join_103 V (s.1, s.2.1, s.2.2.1, (0 : Int32)))
def b_X6_join_52 (V : Md) (s : Md × Int32 × Int32 × Int32) : Option (Md) := (ix s.2.2.1 64 (ix s.2.1 64 (ix s.2.1 64 (ix s.2.1 64 (ix s.2.1 64 (some (s.1.1, s.1.2.1, s.1.2.2.1, s.1.2.2.2.1, s.1.2.2.2.2.1, s.1.2.2.2.2.2.1, s.1.2.2.2.2.2.2.1, s.1.2.2.2.2.2.2.2.1, (upd s.1.2.2.2.2.2.2.2.2.1 (Int32.toNatClampNeg s.2.2.1) (vp_nar .boolean s.2.2.2)), (upd s.1.2.2.2.2.2.2.2.2.2.1 (Int32.toNatClampNeg s.2.1) ((s.1.2.2.2.2.2.2.2.2.2.1 (Int32.toNatClampNeg s.2.1)) + (1 : Int32))), (upd s.1.2.2.2.2.2.2.2.2.2.2.1 (Int32.toNatClampNeg s.2.1) ((s.1.2.2.2.2.2.2.2.2.2.2.1 (Int32.toNatClampNeg s.2.1)) + (1 : Int32))), s.1.2.2.2.2.2.2.2.2.2.2.2.1, s.1.2.2.2.2.2.2.2.2.2.2.2.2.1, s.1.2.2.2.2.2.2.2.2.2.2.2.2.2)))))))
def f_X6_join (V : Md) : Option (Md) := (ix (V.2.2.2.2.2.2.2.2.2.2.2.2.2 - (1 : Int32)) 64 (if (V.2.2.2.2.2.2.2.2.2.2.2.2.1 (Int32.toNatClampNeg (V.2.2.2.2.2.2.2.2.2.2.2.2.2 - (1 : Int32)))) = (33 : Int32) then (ix (V.2.2.2.2.2.2.2.2.2.2.2.1 - (1 : Int32)) 64 (if (V.2.2.2.2.2.2.2.2.1 (Int32.toNatClampNeg (V.2.2.2.2.2.2.2.2.2.2.2.1 - (1 : Int32)))) = 0 then b_X6_join_52 V ((V.1, V.2.1, V.2.2.1, V.2.2.2.1, V.2.2.2.2.1, V.2.2.2.2.2.1, V.2.2.2.2.2.2.1, V.2.2.2.2.2.2.2.1, V.2.2.2.2.2.2.2.2.1, V.2.2.2.2.2.2.2.2.2.1, V.2.2.2.2.2.2.2.2.2.2.1, V.2.2.2.2.2.2.2.2.2.2.2.1, V.2.2.2.2.2.2.2.2.2.2.2.2.1, (V.2.2.2.2.2.2.2.2.2.2.2.2.2 - (1 : Int32))), (V.2.2.2.2.2.2.2.2.2.2.2.1 - (1 : Int32)), (V.2.2.2.2.2.2.2.2.2.2.2.1 - (1 : Int32)), (1 : Int32)) else b_X6_join_52 V ((V.1, V.2.1, V.2.2.1, V.2.2.2.1, V.2.2.2.2.1, V.2.2.2.2.2.1, V.2.2.2.2.2.2.1, V.2.2.2.2.2.2.2.1, V.2.2.2.2.2.2.2.2.1, V.2.2.2.2.2.2.2.2.2.1, V.2.2.2.2.2.2.2.2.2.2.1, V.2.2.2.2.2.2.2.2.2.2.2.1, V.2.2.2.2.2.2.2.2.2.2.2.2.1, (V.2.2.2.2.2.2.2.2.2.2.2.2.2 - (1 : Int32))), (V.2.2.2.2.2.2.2.2.2.2.2.1 - (1 : Int32)), (V.2.2.2.2.2.2.2.2.2.2.2.1 - (1 : Int32)), (0 : Int32)))) else (ix ((V.2.2.2.2.2.2.2.2.2.2.2.1 - (1 : Int32)) - (1 : Int32)) 64 (if (V.2.2.2.2.2.2.2.2.2.2.2.2.1 (Int32.toNatClampNeg (V.2.2.2.2.2.2.2.2.2.2.2.2.2 - (1 : Int32)))) = (38 : Int32) then b_X6_join_95 V ((V.1, V.2.1, V.2.2.1, V.2.2.2.1, V.2.2.2.2.1, V.2.2.2.2.2.1, V.2.2.2.2.2.2.1, V.2.2.2.2.2.2.2.1, V.2.2.2.2.2.2.2.2.1, V.2.2.2.2.2.2.2.2.2.1, V.2.2.2.2.2.2.2.2.2.2.1, V.2.2.2.2.2.2.2.2.2.2.2.1, V.2.2.2.2.2.2.2.2.2.2.2.2.1, (V.2.2.2.2.2.2.2.2.2.2.2.2.2 - (1 : Int32))), (V.2.2.2.2.2.2.2.2.2.2.2.1 - (1 : Int32)), ((V.2.2.2.2.2.2.2.2.2.2.2.1 - (1 : Int32)) - (1 : Int32)), (V.2.2.2.2.2.2.2.2.1 (Int32.toNatClampNeg ((V.2.2.2.2.2.2.2.2.2.2.2.1 - (1 : Int32)) - (1 : Int32)))), (1 : Int32)) else b_X6_join_95 V ((V.1, V.2.1, V.2.2.1, V.2.2.2.1, V.2.2.2.2.1, V.2.2.2.2.2.1, V.2.2.2.2.2.2.1, V.2.2.2.2.2.2.2.1, V.2.2.2.2.2.2.2.2.1, V.2.2.2.2.2.2.2.2.2.1, V.2.2.2.2.2.2.2.2.2.2.1, V.2.2.2.2.2.2.2.2.2.2.2.1, V.2.2.2.2.2.2.2.2.2.2.2.2.1, (V.2.2.2.2.2.2.2.2.2.2.2.2.2 - (1 : Int32))), (V.2.2.2.2.2.2.2.2.2.2.2.1 - (1 : Int32)), ((V.2.2.2.2.2.2.2.2.2.2.2.1 - (1 : Int32)) - (1 : Int32)), (V.2.2.2.2.2.2.2.2.1 (Int32.toNatClampNeg ((V.2.2.2.2.2.2.2.2.2.2.2.1 - (1 : Int32)) - (1 : Int32)))), (0 : Int32))))))
abbrev rm_X6_join : Room := { frames := 0, cells := 0, slots := 0, locals := 0 }
set_option maxRecDepth 100000 in
theorem k_X6_join : CF yX6_join cX6_join 5 (Option.none : Option FieldType) 0 := ⟨mt_672, mp_29, mt_13, mt_673, ⟨rfl, by decide +kernel, by decide +kernel, by decide +kernel⟩⟩
set_option maxHeartbeats 4000000 in
set_option maxRecDepth 100000 in
theorem c_X6_join {E : Ev} {a : Nat → Nat} {V : Md} {o : Md} (hf : f_X6_join V = some o) : ∀ l, MG l yX6_join cX6_join 5 (Option.none : Option FieldType) rm_X6_join E [.ref (a 0)] [md E a V] (fun v Y => v = none ∧ Y = [md E a o]) := by
  refine MG.mk (own := RX6) (lv0 := [(0, .ref (a 0))]) (by decide) rfl (Nat.le_of_ble_eq_true rfl) rfl (fun X C K I => ?_)
  have h193 : ∀ s : Md × Int32 × Int32 × Int32, b_X6_join_193 V s = some o → G E X 5 [md E a s.1] 0 0 [(0, .ref (a 0))] [.int s.2.2.2, .int s.2.2.1, .int s.2.1, .ref (a 8)] 193 := by
    intro s hf
    unfold b_X6_join_193 at hf
    refine g_iadd C dX6_join_193 ?_
    obtain ⟨i1, hf⟩ := ix_s hf
    refine g_iast (Y2 := [md E a (s.1.1, s.1.2.1, s.1.2.2.1, s.1.2.2.2.1, s.1.2.2.2.2.1, s.1.2.2.2.2.2.1, s.1.2.2.2.2.2.2.1, s.1.2.2.2.2.2.2.2.1, s.1.2.2.2.2.2.2.2.2.1, (upd s.1.2.2.2.2.2.2.2.2.2.1 (Int32.toNatClampNeg s.2.1) (s.2.2.1 + s.2.2.2)), s.1.2.2.2.2.2.2.2.2.2.2.1, s.1.2.2.2.2.2.2.2.2.2.2.2.1, s.1.2.2.2.2.2.2.2.2.2.2.2.2.1, s.1.2.2.2.2.2.2.2.2.2.2.2.2.2)]) C 0 8 rfl rfl i1 dX6_join_194 rfl ?_
    refine g_aload_n C dX6_join_195 rfl 0 rfl ?_
    refine g_dup C dX6_join_196 rfl ?_
    refine g_get (Cl := RX6) (T := TX6) (N := 14) C mi_X6 0 rfl (List.mem_of_getElem? (i := 0) rfl) rfl 11 (by decide) mt_600 rfl rfl dX6_join_197 ?_
    refine g_iconst (v := (1 : Int32)) C dX6_join_200 (by decide) ?_
    refine g_isub C dX6_join_201 ?_
    refine g_put (Cl := RX6) (T := TX6) (N := 14) (Y2 := [md E a (s.1.1, s.1.2.1, s.1.2.2.1, s.1.2.2.2.1, s.1.2.2.2.2.1, s.1.2.2.2.2.2.1, s.1.2.2.2.2.2.2.1, s.1.2.2.2.2.2.2.2.1, s.1.2.2.2.2.2.2.2.2.1, (upd s.1.2.2.2.2.2.2.2.2.2.1 (Int32.toNatClampNeg s.2.1) (s.2.2.1 + s.2.2.2)), s.1.2.2.2.2.2.2.2.2.2.2.1, (s.1.2.2.2.2.2.2.2.2.2.2.2.1 - (1 : Int32)), s.1.2.2.2.2.2.2.2.2.2.2.2.2.1, s.1.2.2.2.2.2.2.2.2.2.2.2.2.2)]) C mi_X6 tyX6_ok nmX6 0 0 rfl rfl rfl 11 (by decide) mt_600 rfl rfl rfl rfl rfl (Nat.le_of_ble_eq_true rfl) dX6_join_202 rfl ?_
    obtain rfl := Option.some.inj hf
    exact g_ret C K dX6_join_205 (Nat.le_of_ble_eq_true rfl) (Nat.le_of_ble_eq_true rfl) ⟨rfl, rfl⟩
  have h156 : ∀ s : Md × Int32 × Int32 × Int32 × Int32, b_X6_join_156 V s = some o → G E X 5 [md E a s.1] 0 0 [(0, .ref (a 0)), (2, .int s.2.1), (3, .int s.2.2.1)] [.int s.2.2.2.2, .int s.2.2.2.1, .ref (a 7)] 156 := by
    intro s hf
    unfold b_X6_join_156 at hf
    obtain ⟨i2, hf⟩ := ix_s hf
    refine g_zast (Y2 := [md E a (s.1.1, s.1.2.1, s.1.2.2.1, s.1.2.2.2.1, s.1.2.2.2.2.1, s.1.2.2.2.2.2.1, s.1.2.2.2.2.2.2.1, s.1.2.2.2.2.2.2.2.1, (upd s.1.2.2.2.2.2.2.2.2.1 (Int32.toNatClampNeg s.2.2.2.1) (vp_nar .boolean s.2.2.2.2)), s.1.2.2.2.2.2.2.2.2.2.1, s.1.2.2.2.2.2.2.2.2.2.2.1, s.1.2.2.2.2.2.2.2.2.2.2.2.1, s.1.2.2.2.2.2.2.2.2.2.2.2.2.1, s.1.2.2.2.2.2.2.2.2.2.2.2.2.2)]) C 0 7 rfl rfl i2 dX6_join_156 rfl ?_
    refine g_aload_n C dX6_join_157 rfl 0 rfl ?_
    refine g_get (Cl := RX6) (T := TX6) (N := 14) C mi_X6 0 rfl (List.mem_of_getElem? (i := 0) rfl) rfl 9 (by decide) mt_598 rfl rfl dX6_join_158 ?_
    refine g_iload_n C dX6_join_161 rfl 2 rfl ?_
    refine g_iconst (v := (1 : Int32)) C dX6_join_162 (by decide) ?_
    refine g_aload_n C dX6_join_163 rfl 0 rfl ?_
    refine g_get (Cl := RX6) (T := TX6) (N := 14) C mi_X6 0 rfl (List.mem_of_getElem? (i := 0) rfl) rfl 9 (by decide) mt_598 rfl rfl dX6_join_164 ?_
    refine g_iload_n C dX6_join_167 rfl 2 rfl ?_
    obtain ⟨i3, hf⟩ := ix_s hf
    refine g_iald C 0 rfl (List.mem_of_getElem? (i := 8) rfl) i3 dX6_join_168 ?_
    refine g_aload_n C dX6_join_169 rfl 0 rfl ?_
    refine g_get (Cl := RX6) (T := TX6) (N := 14) C mi_X6 0 rfl (List.mem_of_getElem? (i := 0) rfl) rfl 9 (by decide) mt_598 rfl rfl dX6_join_170 ?_
    refine g_iload_n C dX6_join_173 rfl 1 rfl ?_
    obtain ⟨i4, hf⟩ := ix_s hf
    refine g_iald C 0 rfl (List.mem_of_getElem? (i := 8) rfl) i4 dX6_join_174 ?_
    refine g_icmp_le (tgt := 187) C dX6_join_175 (by decide) (fun c5 => ?_) (fun c5 => ?_)
    · have hf := (f_if hf).1 c5
      refine g_aload_n C dX6_join_187 rfl 0 rfl ?_
      refine g_get (Cl := RX6) (T := TX6) (N := 14) C mi_X6 0 rfl (List.mem_of_getElem? (i := 0) rfl) rfl 9 (by decide) mt_598 rfl rfl dX6_join_188 ?_
      refine g_iload_n C dX6_join_191 rfl 1 rfl ?_
      obtain ⟨i6, hf⟩ := ix_s hf
      refine g_iald C 0 rfl (List.mem_of_getElem? (i := 8) rfl) i6 dX6_join_192 ?_
      refine g_sub (lv2 := [(0, .ref (a 0))]) [0] rfl ?_
      exact h193 ((s.1.1, s.1.2.1, s.1.2.2.1, s.1.2.2.2.1, s.1.2.2.2.2.1, s.1.2.2.2.2.2.1, s.1.2.2.2.2.2.2.1, s.1.2.2.2.2.2.2.2.1, (upd s.1.2.2.2.2.2.2.2.2.1 (Int32.toNatClampNeg s.2.2.2.1) (vp_nar .boolean s.2.2.2.2)), s.1.2.2.2.2.2.2.2.2.2.1, s.1.2.2.2.2.2.2.2.2.2.2.1, s.1.2.2.2.2.2.2.2.2.2.2.2.1, s.1.2.2.2.2.2.2.2.2.2.2.2.2.1, s.1.2.2.2.2.2.2.2.2.2.2.2.2.2), s.2.2.1, (1 : Int32), (s.1.2.2.2.2.2.2.2.2.2.1 (Int32.toNatClampNeg s.2.1))) hf
    · have hf := (f_if hf).2 c5
      refine g_aload_n C dX6_join_178 rfl 0 rfl ?_
      refine g_get (Cl := RX6) (T := TX6) (N := 14) C mi_X6 0 rfl (List.mem_of_getElem? (i := 0) rfl) rfl 9 (by decide) mt_598 rfl rfl dX6_join_179 ?_
      refine g_iload_n C dX6_join_182 rfl 2 rfl ?_
      obtain ⟨i7, hf⟩ := ix_s hf
      refine g_iald C 0 rfl (List.mem_of_getElem? (i := 8) rfl) i7 dX6_join_183 ?_
      refine g_goto (tgt := 193) C dX6_join_184 (by decide) ?_
      refine g_sub (lv2 := [(0, .ref (a 0))]) [0] rfl ?_
      exact h193 ((s.1.1, s.1.2.1, s.1.2.2.1, s.1.2.2.2.1, s.1.2.2.2.2.1, s.1.2.2.2.2.2.1, s.1.2.2.2.2.2.2.1, s.1.2.2.2.2.2.2.2.1, (upd s.1.2.2.2.2.2.2.2.2.1 (Int32.toNatClampNeg s.2.2.2.1) (vp_nar .boolean s.2.2.2.2)), s.1.2.2.2.2.2.2.2.2.2.1, s.1.2.2.2.2.2.2.2.2.2.2.1, s.1.2.2.2.2.2.2.2.2.2.2.2.1, s.1.2.2.2.2.2.2.2.2.2.2.2.2.1, s.1.2.2.2.2.2.2.2.2.2.2.2.2.2), s.2.2.1, (1 : Int32), (s.1.2.2.2.2.2.2.2.2.2.1 (Int32.toNatClampNeg s.2.2.1))) hf
  have h128 : ∀ s : Md × Int32 × Int32 × Int32 × Int32 × Int32 × Int32 × Int32, b_X6_join_128 V s = some o → G E X 5 [md E a s.1] 0 0 [(0, .ref (a 0)), (2, .int s.2.1), (3, .int s.2.2.1), (4, .int s.2.2.2.1)] [.int s.2.2.2.2.2.2.2, .int s.2.2.2.2.2.2.1, .int s.2.2.2.2.2.1, .int s.2.2.2.2.1, .ref (a 9)] 128 := by
    intro s hf
    unfold b_X6_join_128 at hf
    refine g_iadd C dX6_join_128 ?_
    refine g_iadd C dX6_join_129 ?_
    obtain ⟨i8, hf⟩ := ix_s hf
    refine g_iast (Y2 := [md E a (s.1.1, s.1.2.1, s.1.2.2.1, s.1.2.2.2.1, s.1.2.2.2.2.1, s.1.2.2.2.2.2.1, s.1.2.2.2.2.2.2.1, s.1.2.2.2.2.2.2.2.1, s.1.2.2.2.2.2.2.2.2.1, s.1.2.2.2.2.2.2.2.2.2.1, (upd s.1.2.2.2.2.2.2.2.2.2.2.1 (Int32.toNatClampNeg s.2.2.2.2.1) (s.2.2.2.2.2.1 + (s.2.2.2.2.2.2.1 + s.2.2.2.2.2.2.2))), s.1.2.2.2.2.2.2.2.2.2.2.2.1, s.1.2.2.2.2.2.2.2.2.2.2.2.2.1, s.1.2.2.2.2.2.2.2.2.2.2.2.2.2)]) C 0 9 rfl rfl i8 dX6_join_130 rfl ?_
    refine g_aload_n C dX6_join_131 rfl 0 rfl ?_
    refine g_get (Cl := RX6) (T := TX6) (N := 14) C mi_X6 0 rfl (List.mem_of_getElem? (i := 0) rfl) rfl 8 (by decide) mt_597 rfl rfl dX6_join_132 ?_
    refine g_iload_n C dX6_join_135 rfl 2 rfl ?_
    refine g_iload C dX6_join_136 3 rfl ?_
    refine g_if_eq (tgt := 150) C dX6_join_138 (by decide) (fun c9 => ?_) (fun c9 => ?_)
    · have hf := (f_if hf).1 c9
      refine g_aload_n C dX6_join_150 rfl 0 rfl ?_
      refine g_get (Cl := RX6) (T := TX6) (N := 14) C mi_X6 0 rfl (List.mem_of_getElem? (i := 0) rfl) rfl 8 (by decide) mt_597 rfl rfl dX6_join_151 ?_
      refine g_iload_n C dX6_join_154 rfl 2 rfl ?_
      obtain ⟨i10, hf⟩ := ix_s hf
      refine g_zald C 0 rfl (List.mem_of_getElem? (i := 7) rfl) i10 dX6_join_155 ?_
      refine g_sub (lv2 := [(0, .ref (a 0)), (2, .int s.2.1), (3, .int s.2.2.1)]) [0, 1, 2] rfl ?_
      exact h156 ((s.1.1, s.1.2.1, s.1.2.2.1, s.1.2.2.2.1, s.1.2.2.2.2.1, s.1.2.2.2.2.2.1, s.1.2.2.2.2.2.2.1, s.1.2.2.2.2.2.2.2.1, s.1.2.2.2.2.2.2.2.2.1, s.1.2.2.2.2.2.2.2.2.2.1, (upd s.1.2.2.2.2.2.2.2.2.2.2.1 (Int32.toNatClampNeg s.2.2.2.2.1) (s.2.2.2.2.2.1 + (s.2.2.2.2.2.2.1 + s.2.2.2.2.2.2.2))), s.1.2.2.2.2.2.2.2.2.2.2.2.1, s.1.2.2.2.2.2.2.2.2.2.2.2.2.1, s.1.2.2.2.2.2.2.2.2.2.2.2.2.2), s.2.1, s.2.2.1, s.2.2.1, (s.1.2.2.2.2.2.2.2.2.1 (Int32.toNatClampNeg s.2.2.1))) hf
    · have hf := (f_if hf).2 c9
      refine g_aload_n C dX6_join_141 rfl 0 rfl ?_
      refine g_get (Cl := RX6) (T := TX6) (N := 14) C mi_X6 0 rfl (List.mem_of_getElem? (i := 0) rfl) rfl 8 (by decide) mt_597 rfl rfl dX6_join_142 ?_
      refine g_iload_n C dX6_join_145 rfl 1 rfl ?_
      obtain ⟨i11, hf⟩ := ix_s hf
      refine g_zald C 0 rfl (List.mem_of_getElem? (i := 7) rfl) i11 dX6_join_146 ?_
      refine g_goto (tgt := 156) C dX6_join_147 (by decide) ?_
      refine g_sub (lv2 := [(0, .ref (a 0)), (2, .int s.2.1), (3, .int s.2.2.1)]) [0, 1, 2] rfl ?_
      exact h156 ((s.1.1, s.1.2.1, s.1.2.2.1, s.1.2.2.2.1, s.1.2.2.2.2.1, s.1.2.2.2.2.2.1, s.1.2.2.2.2.2.2.1, s.1.2.2.2.2.2.2.2.1, s.1.2.2.2.2.2.2.2.2.1, s.1.2.2.2.2.2.2.2.2.2.1, (upd s.1.2.2.2.2.2.2.2.2.2.2.1 (Int32.toNatClampNeg s.2.2.2.2.1) (s.2.2.2.2.2.1 + (s.2.2.2.2.2.2.1 + s.2.2.2.2.2.2.2))), s.1.2.2.2.2.2.2.2.2.2.2.2.1, s.1.2.2.2.2.2.2.2.2.2.2.2.2.1, s.1.2.2.2.2.2.2.2.2.2.2.2.2.2), s.2.1, s.2.2.1, s.2.2.1, (s.1.2.2.2.2.2.2.2.2.1 (Int32.toNatClampNeg s.2.1))) hf
  have h103 : ∀ s : Md × Int32 × Int32 × Int32, b_X6_join_103 V s = some o → G E X 5 [md E a s.1] 0 0 [(0, .ref (a 0)), (2, .int s.2.1), (3, .int s.2.2.1)] [.int s.2.2.2] 103 := by
    intro s hf
    unfold b_X6_join_103 at hf
    refine g_istore (lv2 := [(4, .int s.2.2.2), (0, .ref (a 0)), (2, .int s.2.1), (3, .int s.2.2.1)]) C dX6_join_103 (by decide) rfl ?_
    refine g_aload_n C dX6_join_105 rfl 1 rfl ?_
    refine g_get (Cl := RX6) (T := TX6) (N := 14) C mi_X6 0 rfl (List.mem_of_getElem? (i := 0) rfl) rfl 10 (by decide) mt_599 rfl rfl dX6_join_106 ?_
    refine g_iload_n C dX6_join_109 rfl 3 rfl ?_
    refine g_dup2 C dX6_join_110 rfl rfl ?_
    obtain ⟨i12, hf⟩ := ix_s hf
    refine g_iald C 0 rfl (List.mem_of_getElem? (i := 9) rfl) i12 dX6_join_111 ?_
    refine g_iconst (v := (1 : Int32)) C dX6_join_112 (by decide) ?_
    refine g_iload C dX6_join_113 0 rfl ?_
    refine g_if_eq (tgt := 127) C dX6_join_115 (by decide) (fun c13 => ?_) (fun c13 => ?_)
    · have hf := (f_if hf).1 c13
      refine g_iconst (v := (0 : Int32)) C dX6_join_127 (by decide) ?_
      refine g_sub (lv2 := [(0, .ref (a 0)), (2, .int s.2.1), (3, .int s.2.2.1), (4, .int s.2.2.2)]) [1, 2, 3, 0] rfl ?_
      exact h128 (s.1, s.2.1, s.2.2.1, s.2.2.2, s.2.2.1, (s.1.2.2.2.2.2.2.2.2.2.2.1 (Int32.toNatClampNeg s.2.2.1)), (1 : Int32), (0 : Int32)) hf
    · have hf := (f_if hf).2 c13
      refine g_aload_n C dX6_join_118 rfl 1 rfl ?_
      refine g_get (Cl := RX6) (T := TX6) (N := 14) C mi_X6 0 rfl (List.mem_of_getElem? (i := 0) rfl) rfl 10 (by decide) mt_599 rfl rfl dX6_join_119 ?_
      refine g_iload_n C dX6_join_122 rfl 2 rfl ?_
      obtain ⟨i14, hf⟩ := ix_s hf
      refine g_iald C 0 rfl (List.mem_of_getElem? (i := 9) rfl) i14 dX6_join_123 ?_
      refine g_goto (tgt := 128) C dX6_join_124 (by decide) ?_
      refine g_sub (lv2 := [(0, .ref (a 0)), (2, .int s.2.1), (3, .int s.2.2.1), (4, .int s.2.2.2)]) [1, 2, 3, 0] rfl ?_
      exact h128 (s.1, s.2.1, s.2.2.1, s.2.2.2, s.2.2.1, (s.1.2.2.2.2.2.2.2.2.2.2.1 (Int32.toNatClampNeg s.2.2.1)), (1 : Int32), (s.1.2.2.2.2.2.2.2.2.2.2.1 (Int32.toNatClampNeg s.2.1))) hf
  have h95 : ∀ s : Md × Int32 × Int32 × Int32 × Int32, b_X6_join_95 V s = some o → G E X 5 [md E a s.1] 0 0 [(0, .ref (a 0)), (2, .int s.2.1), (3, .int s.2.2.1)] [.int s.2.2.2.2, .int s.2.2.2.1] 95 := by
    intro s hf
    unfold b_X6_join_95 at hf
    refine g_icmp_ne (tgt := 102) C dX6_join_95 (by decide) (fun c15 => ?_) (fun c15 => ?_)
    · have hf := (f_if hf).2 c15
      refine g_iconst (v := (0 : Int32)) C dX6_join_102 (by decide) ?_
      exact h103 (s.1, s.2.1, s.2.2.1, (0 : Int32)) hf
    · have hf := (f_if hf).1 c15
      refine g_iconst (v := (1 : Int32)) C dX6_join_98 (by decide) ?_
      refine g_goto (tgt := 103) C dX6_join_99 (by decide) ?_
      exact h103 (s.1, s.2.1, s.2.2.1, (1 : Int32)) hf
  have h52 : ∀ s : Md × Int32 × Int32 × Int32, b_X6_join_52 V s = some o → G E X 5 [md E a s.1] 0 0 [(0, .ref (a 0)), (2, .int s.2.1)] [.int s.2.2.2, .int s.2.2.1, .ref (a 7)] 52 := by
    intro s hf
    unfold b_X6_join_52 at hf
    obtain ⟨i16, hf⟩ := ix_s hf
    refine g_zast (Y2 := [md E a (s.1.1, s.1.2.1, s.1.2.2.1, s.1.2.2.2.1, s.1.2.2.2.2.1, s.1.2.2.2.2.2.1, s.1.2.2.2.2.2.2.1, s.1.2.2.2.2.2.2.2.1, (upd s.1.2.2.2.2.2.2.2.2.1 (Int32.toNatClampNeg s.2.2.1) (vp_nar .boolean s.2.2.2)), s.1.2.2.2.2.2.2.2.2.2.1, s.1.2.2.2.2.2.2.2.2.2.2.1, s.1.2.2.2.2.2.2.2.2.2.2.2.1, s.1.2.2.2.2.2.2.2.2.2.2.2.2.1, s.1.2.2.2.2.2.2.2.2.2.2.2.2.2)]) C 0 7 rfl rfl i16 dX6_join_52 rfl ?_
    refine g_aload_n C dX6_join_53 rfl 0 rfl ?_
    refine g_get (Cl := RX6) (T := TX6) (N := 14) C mi_X6 0 rfl (List.mem_of_getElem? (i := 0) rfl) rfl 9 (by decide) mt_598 rfl rfl dX6_join_54 ?_
    refine g_iload_n C dX6_join_57 rfl 1 rfl ?_
    refine g_dup2 C dX6_join_58 rfl rfl ?_
    obtain ⟨i17, hf⟩ := ix_s hf
    refine g_iald C 0 rfl (List.mem_of_getElem? (i := 8) rfl) i17 dX6_join_59 ?_
    refine g_iconst (v := (1 : Int32)) C dX6_join_60 (by decide) ?_
    refine g_iadd C dX6_join_61 ?_
    obtain ⟨i18, hf⟩ := ix_s hf
    refine g_iast (Y2 := [md E a (s.1.1, s.1.2.1, s.1.2.2.1, s.1.2.2.2.1, s.1.2.2.2.2.1, s.1.2.2.2.2.2.1, s.1.2.2.2.2.2.2.1, s.1.2.2.2.2.2.2.2.1, (upd s.1.2.2.2.2.2.2.2.2.1 (Int32.toNatClampNeg s.2.2.1) (vp_nar .boolean s.2.2.2)), (upd s.1.2.2.2.2.2.2.2.2.2.1 (Int32.toNatClampNeg s.2.1) ((s.1.2.2.2.2.2.2.2.2.2.1 (Int32.toNatClampNeg s.2.1)) + (1 : Int32))), s.1.2.2.2.2.2.2.2.2.2.2.1, s.1.2.2.2.2.2.2.2.2.2.2.2.1, s.1.2.2.2.2.2.2.2.2.2.2.2.2.1, s.1.2.2.2.2.2.2.2.2.2.2.2.2.2)]) C 0 8 rfl rfl i18 dX6_join_62 rfl ?_
    refine g_aload_n C dX6_join_63 rfl 0 rfl ?_
    refine g_get (Cl := RX6) (T := TX6) (N := 14) C mi_X6 0 rfl (List.mem_of_getElem? (i := 0) rfl) rfl 10 (by decide) mt_599 rfl rfl dX6_join_64 ?_
    refine g_iload_n C dX6_join_67 rfl 1 rfl ?_
    refine g_dup2 C dX6_join_68 rfl rfl ?_
    obtain ⟨i19, hf⟩ := ix_s hf
    refine g_iald C 0 rfl (List.mem_of_getElem? (i := 9) rfl) i19 dX6_join_69 ?_
    refine g_iconst (v := (1 : Int32)) C dX6_join_70 (by decide) ?_
    refine g_iadd C dX6_join_71 ?_
    obtain ⟨i20, hf⟩ := ix_s hf
    refine g_iast (Y2 := [md E a (s.1.1, s.1.2.1, s.1.2.2.1, s.1.2.2.2.1, s.1.2.2.2.2.1, s.1.2.2.2.2.2.1, s.1.2.2.2.2.2.2.1, s.1.2.2.2.2.2.2.2.1, (upd s.1.2.2.2.2.2.2.2.2.1 (Int32.toNatClampNeg s.2.2.1) (vp_nar .boolean s.2.2.2)), (upd s.1.2.2.2.2.2.2.2.2.2.1 (Int32.toNatClampNeg s.2.1) ((s.1.2.2.2.2.2.2.2.2.2.1 (Int32.toNatClampNeg s.2.1)) + (1 : Int32))), (upd s.1.2.2.2.2.2.2.2.2.2.2.1 (Int32.toNatClampNeg s.2.1) ((s.1.2.2.2.2.2.2.2.2.2.2.1 (Int32.toNatClampNeg s.2.1)) + (1 : Int32))), s.1.2.2.2.2.2.2.2.2.2.2.2.1, s.1.2.2.2.2.2.2.2.2.2.2.2.2.1, s.1.2.2.2.2.2.2.2.2.2.2.2.2.2)]) C 0 9 rfl rfl i20 dX6_join_72 rfl ?_
    obtain rfl := Option.some.inj hf
    exact g_ret C K dX6_join_73 (Nat.le_of_ble_eq_true rfl) (Nat.le_of_ble_eq_true rfl) ⟨rfl, rfl⟩
  unfold f_X6_join at hf
  refine g_aload_n C dX6_join_0 rfl 0 rfl ?_
  refine g_dup C dX6_join_1 rfl ?_
  refine g_get (Cl := RX6) (T := TX6) (N := 14) C mi_X6 0 rfl (List.mem_of_getElem? (i := 0) rfl) rfl 13 (by decide) mt_602 rfl rfl dX6_join_2 ?_
  refine g_iconst (v := (1 : Int32)) C dX6_join_5 (by decide) ?_
  refine g_isub C dX6_join_6 ?_
  refine g_put (Cl := RX6) (T := TX6) (N := 14) (Y2 := [md E a (V.1, V.2.1, V.2.2.1, V.2.2.2.1, V.2.2.2.2.1, V.2.2.2.2.2.1, V.2.2.2.2.2.2.1, V.2.2.2.2.2.2.2.1, V.2.2.2.2.2.2.2.2.1, V.2.2.2.2.2.2.2.2.2.1, V.2.2.2.2.2.2.2.2.2.2.1, V.2.2.2.2.2.2.2.2.2.2.2.1, V.2.2.2.2.2.2.2.2.2.2.2.2.1, (V.2.2.2.2.2.2.2.2.2.2.2.2.2 - (1 : Int32)))]) C mi_X6 tyX6_ok nmX6 0 0 rfl rfl rfl 13 (by decide) mt_602 rfl rfl rfl rfl rfl (Nat.le_of_ble_eq_true rfl) dX6_join_7 rfl ?_
  refine g_aload_n C dX6_join_10 rfl 0 rfl ?_
  refine g_get (Cl := RX6) (T := TX6) (N := 14) C mi_X6 0 rfl (List.mem_of_getElem? (i := 0) rfl) rfl 12 (by decide) mt_601 rfl rfl dX6_join_11 ?_
  refine g_aload_n C dX6_join_14 rfl 0 rfl ?_
  refine g_get (Cl := RX6) (T := TX6) (N := 14) C mi_X6 0 rfl (List.mem_of_getElem? (i := 0) rfl) rfl 13 (by decide) mt_602 rfl rfl dX6_join_15 ?_
  obtain ⟨i21, hf⟩ := ix_s hf
  refine g_iald C 0 rfl (List.mem_of_getElem? (i := 10) rfl) i21 dX6_join_18 ?_
  refine g_istore_n (lv2 := [(1, .int (V.2.2.2.2.2.2.2.2.2.2.2.2.1 (Int32.toNatClampNeg (V.2.2.2.2.2.2.2.2.2.2.2.2.2 - (1 : Int32))))), (0, .ref (a 0))]) C dX6_join_19 rfl (by decide) rfl ?_
  refine g_aload_n C dX6_join_20 rfl 1 rfl ?_
  refine g_get (Cl := RX6) (T := TX6) (N := 14) C mi_X6 0 rfl (List.mem_of_getElem? (i := 0) rfl) rfl 11 (by decide) mt_600 rfl rfl dX6_join_21 ?_
  refine g_iconst (v := (1 : Int32)) C dX6_join_24 (by decide) ?_
  refine g_isub C dX6_join_25 ?_
  refine g_istore_n (lv2 := [(2, .int (V.2.2.2.2.2.2.2.2.2.2.2.1 - (1 : Int32))), (1, .int (V.2.2.2.2.2.2.2.2.2.2.2.2.1 (Int32.toNatClampNeg (V.2.2.2.2.2.2.2.2.2.2.2.2.2 - (1 : Int32))))), (0, .ref (a 0))]) C dX6_join_26 rfl (by decide) rfl ?_
  refine g_iload_n C dX6_join_27 rfl 1 rfl ?_
  refine g_bipush (v := (33 : Int32)) C dX6_join_28 (by decide) ?_
  refine g_icmp_ne (tgt := 74) C dX6_join_30 (by decide) (fun c22 => ?_) (fun c22 => ?_)
  · have hf := (f_if hf).2 c22
    refine g_iload_n C dX6_join_74 rfl 0 rfl ?_
    refine g_iconst (v := (1 : Int32)) C dX6_join_75 (by decide) ?_
    refine g_isub C dX6_join_76 ?_
    refine g_istore_n (lv2 := [(3, .int ((V.2.2.2.2.2.2.2.2.2.2.2.1 - (1 : Int32)) - (1 : Int32))), (2, .int (V.2.2.2.2.2.2.2.2.2.2.2.1 - (1 : Int32))), (1, .int (V.2.2.2.2.2.2.2.2.2.2.2.2.1 (Int32.toNatClampNeg (V.2.2.2.2.2.2.2.2.2.2.2.2.2 - (1 : Int32))))), (0, .ref (a 0))]) C dX6_join_77 rfl (by decide) rfl ?_
    refine g_aload_n C dX6_join_78 rfl 3 rfl ?_
    refine g_get (Cl := RX6) (T := TX6) (N := 14) C mi_X6 0 rfl (List.mem_of_getElem? (i := 0) rfl) rfl 8 (by decide) mt_597 rfl rfl dX6_join_79 ?_
    refine g_iload_n C dX6_join_82 rfl 0 rfl ?_
    obtain ⟨i23, hf⟩ := ix_s hf
    refine g_zald C 0 rfl (List.mem_of_getElem? (i := 7) rfl) i23 dX6_join_83 ?_
    refine g_iload_n C dX6_join_84 rfl 2 rfl ?_
    refine g_bipush (v := (38 : Int32)) C dX6_join_85 (by decide) ?_
    refine g_icmp_ne (tgt := 94) C dX6_join_87 (by decide) (fun c24 => ?_) (fun c24 => ?_)
    · have hf := (f_if hf).2 c24
      refine g_iconst (v := (0 : Int32)) C dX6_join_94 (by decide) ?_
      refine g_sub (lv2 := [(0, .ref (a 0)), (2, .int (V.2.2.2.2.2.2.2.2.2.2.2.1 - (1 : Int32))), (3, .int ((V.2.2.2.2.2.2.2.2.2.2.2.1 - (1 : Int32)) - (1 : Int32)))]) [3, 1, 0] rfl ?_
      exact h95 ((V.1, V.2.1, V.2.2.1, V.2.2.2.1, V.2.2.2.2.1, V.2.2.2.2.2.1, V.2.2.2.2.2.2.1, V.2.2.2.2.2.2.2.1, V.2.2.2.2.2.2.2.2.1, V.2.2.2.2.2.2.2.2.2.1, V.2.2.2.2.2.2.2.2.2.2.1, V.2.2.2.2.2.2.2.2.2.2.2.1, V.2.2.2.2.2.2.2.2.2.2.2.2.1, (V.2.2.2.2.2.2.2.2.2.2.2.2.2 - (1 : Int32))), (V.2.2.2.2.2.2.2.2.2.2.2.1 - (1 : Int32)), ((V.2.2.2.2.2.2.2.2.2.2.2.1 - (1 : Int32)) - (1 : Int32)), (V.2.2.2.2.2.2.2.2.1 (Int32.toNatClampNeg ((V.2.2.2.2.2.2.2.2.2.2.2.1 - (1 : Int32)) - (1 : Int32)))), (0 : Int32)) hf
    · have hf := (f_if hf).1 c24
      refine g_iconst (v := (1 : Int32)) C dX6_join_90 (by decide) ?_
      refine g_goto (tgt := 95) C dX6_join_91 (by decide) ?_
      refine g_sub (lv2 := [(0, .ref (a 0)), (2, .int (V.2.2.2.2.2.2.2.2.2.2.2.1 - (1 : Int32))), (3, .int ((V.2.2.2.2.2.2.2.2.2.2.2.1 - (1 : Int32)) - (1 : Int32)))]) [3, 1, 0] rfl ?_
      exact h95 ((V.1, V.2.1, V.2.2.1, V.2.2.2.1, V.2.2.2.2.1, V.2.2.2.2.2.1, V.2.2.2.2.2.2.1, V.2.2.2.2.2.2.2.1, V.2.2.2.2.2.2.2.2.1, V.2.2.2.2.2.2.2.2.2.1, V.2.2.2.2.2.2.2.2.2.2.1, V.2.2.2.2.2.2.2.2.2.2.2.1, V.2.2.2.2.2.2.2.2.2.2.2.2.1, (V.2.2.2.2.2.2.2.2.2.2.2.2.2 - (1 : Int32))), (V.2.2.2.2.2.2.2.2.2.2.2.1 - (1 : Int32)), ((V.2.2.2.2.2.2.2.2.2.2.2.1 - (1 : Int32)) - (1 : Int32)), (V.2.2.2.2.2.2.2.2.1 (Int32.toNatClampNeg ((V.2.2.2.2.2.2.2.2.2.2.2.1 - (1 : Int32)) - (1 : Int32)))), (1 : Int32)) hf
  · have hf := (f_if hf).1 c22
    refine g_aload_n C dX6_join_33 rfl 2 rfl ?_
    refine g_get (Cl := RX6) (T := TX6) (N := 14) C mi_X6 0 rfl (List.mem_of_getElem? (i := 0) rfl) rfl 8 (by decide) mt_597 rfl rfl dX6_join_34 ?_
    refine g_iload_n C dX6_join_37 rfl 0 rfl ?_
    refine g_aload_n C dX6_join_38 rfl 2 rfl ?_
    refine g_get (Cl := RX6) (T := TX6) (N := 14) C mi_X6 0 rfl (List.mem_of_getElem? (i := 0) rfl) rfl 8 (by decide) mt_597 rfl rfl dX6_join_39 ?_
    refine g_iload_n C dX6_join_42 rfl 0 rfl ?_
    obtain ⟨i25, hf⟩ := ix_s hf
    refine g_zald C 0 rfl (List.mem_of_getElem? (i := 7) rfl) i25 dX6_join_43 ?_
    refine g_if_ne (tgt := 51) C dX6_join_44 (by decide) (fun c26 => ?_) (fun c26 => ?_)
    · have hf := (f_if hf).2 c26
      refine g_iconst (v := (0 : Int32)) C dX6_join_51 (by decide) ?_
      refine g_sub (lv2 := [(0, .ref (a 0)), (2, .int (V.2.2.2.2.2.2.2.2.2.2.2.1 - (1 : Int32)))]) [2, 0] rfl ?_
      exact h52 ((V.1, V.2.1, V.2.2.1, V.2.2.2.1, V.2.2.2.2.1, V.2.2.2.2.2.1, V.2.2.2.2.2.2.1, V.2.2.2.2.2.2.2.1, V.2.2.2.2.2.2.2.2.1, V.2.2.2.2.2.2.2.2.2.1, V.2.2.2.2.2.2.2.2.2.2.1, V.2.2.2.2.2.2.2.2.2.2.2.1, V.2.2.2.2.2.2.2.2.2.2.2.2.1, (V.2.2.2.2.2.2.2.2.2.2.2.2.2 - (1 : Int32))), (V.2.2.2.2.2.2.2.2.2.2.2.1 - (1 : Int32)), (V.2.2.2.2.2.2.2.2.2.2.2.1 - (1 : Int32)), (0 : Int32)) hf
    · have hf := (f_if hf).1 c26
      refine g_iconst (v := (1 : Int32)) C dX6_join_47 (by decide) ?_
      refine g_goto (tgt := 52) C dX6_join_48 (by decide) ?_
      refine g_sub (lv2 := [(0, .ref (a 0)), (2, .int (V.2.2.2.2.2.2.2.2.2.2.2.1 - (1 : Int32)))]) [2, 0] rfl ?_
      exact h52 ((V.1, V.2.1, V.2.2.1, V.2.2.2.1, V.2.2.2.2.1, V.2.2.2.2.2.1, V.2.2.2.2.2.2.1, V.2.2.2.2.2.2.2.1, V.2.2.2.2.2.2.2.2.1, V.2.2.2.2.2.2.2.2.2.1, V.2.2.2.2.2.2.2.2.2.2.1, V.2.2.2.2.2.2.2.2.2.2.2.1, V.2.2.2.2.2.2.2.2.2.2.2.2.1, (V.2.2.2.2.2.2.2.2.2.2.2.2.2 - (1 : Int32))), (V.2.2.2.2.2.2.2.2.2.2.2.1 - (1 : Int32)), (V.2.2.2.2.2.2.2.2.2.2.2.1 - (1 : Int32)), (1 : Int32)) hf
def b_X6_joinAll_32 (N : Nat) (V : Md) (p0 : Int32) (s : Md) : Option (Md) := some s
def b_X6_joinAll_0 (N : Nat) (V : Md) (p0 : Int32) (K : Md → Option (Md)) (s : Md) : Option (Md) := (if s.2.2.2.2.2.2.2.2.2.2.2.2.2 ≤ 0 then b_X6_joinAll_32 N V p0 s else (ix (s.2.2.2.2.2.2.2.2.2.2.2.2.2 - (1 : Int32)) 64 ((f_X6_strength (s.2.2.2.2.2.2.2.2.2.2.2.2.1 (Int32.toNatClampNeg (s.2.2.2.2.2.2.2.2.2.2.2.2.2 - (1 : Int32))))).bind fun o3 => (if o3 < p0 then b_X6_joinAll_32 N V p0 s else ((f_X6_join s).bind fun o6 => K o6)))))
def f_X6_joinAll (N : Nat) (V : Md) (p0 : Int32) : Option (Md) := lp (b_X6_joinAll_0 N V p0) N V
abbrev rm_X6_joinAll : Room := { frames := 1, cells := 0, slots := 0, locals := 24 }
set_option maxRecDepth 100000 in
theorem k_X6_joinAll : CF yX6_joinAll cX6_joinAll 2 (Option.none : Option FieldType) 1 := ⟨mt_665, mp_28, mt_13, mt_666, ⟨rfl, by decide +kernel, by decide +kernel, by decide +kernel⟩⟩
set_option maxHeartbeats 4000000 in
set_option maxRecDepth 100000 in
theorem c_X6_joinAll {E : Ev} {a : Nat → Nat} {V : Md} {p0 : Int32} {N : Nat} {o : Md} (hf : f_X6_joinAll N V p0 = some o) : ∀ l, MG l yX6_joinAll cX6_joinAll 2 (Option.none : Option FieldType) rm_X6_joinAll E [.ref (a 0), .int p0] [md E a V] (fun v Y => v = none ∧ Y = [md E a o]) := by
  refine MG.mk (own := RX6) (lv0 := [(0, .ref (a 0)), (1, .int p0)]) (by decide) rfl (Nat.le_of_ble_eq_true rfl) rfl (fun X C K I => ?_)
  have h32 : ∀ s : Md, b_X6_joinAll_32 N V p0 s = some o → G E X 2 [md E a s] 0 0 [] [] 32 := by
    intro s hf
    unfold b_X6_joinAll_32 at hf
    obtain rfl := Option.some.inj hf
    exact g_ret C K dX6_joinAll_32 (Nat.le_of_ble_eq_true rfl) (Nat.le_of_ble_eq_true rfl) ⟨rfl, rfl⟩
  have h0 : ∀ (n : Nat) (s : Md), lp (b_X6_joinAll_0 N V p0) n s = some o → G E X 2 [md E a s] 0 0 [(0, .ref (a 0)), (1, .int p0)] [] 0 := lp_ind (by
    intro K0 hK0 s hf
    unfold b_X6_joinAll_0 at hf
    refine g_aload_n C dX6_joinAll_0 rfl 0 rfl ?_
    refine g_get (Cl := RX6) (T := TX6) (N := 14) C mi_X6 0 rfl (List.mem_of_getElem? (i := 0) rfl) rfl 13 (by decide) mt_602 rfl rfl dX6_joinAll_1 ?_
    refine g_if_le (tgt := 32) C dX6_joinAll_4 (by decide) (fun c1 => ?_) (fun c1 => ?_)
    · have hf := (f_if hf).1 c1
      refine g_sub (lv2 := []) [] rfl ?_
      exact h32 s hf
    · have hf := (f_if hf).2 c1
      refine g_aload_n C dX6_joinAll_7 rfl 0 rfl ?_
      refine g_get (Cl := RX6) (T := TX6) (N := 14) C mi_X6 0 rfl (List.mem_of_getElem? (i := 0) rfl) rfl 12 (by decide) mt_601 rfl rfl dX6_joinAll_8 ?_
      refine g_aload_n C dX6_joinAll_11 rfl 0 rfl ?_
      refine g_get (Cl := RX6) (T := TX6) (N := 14) C mi_X6 0 rfl (List.mem_of_getElem? (i := 0) rfl) rfl 13 (by decide) mt_602 rfl rfl dX6_joinAll_12 ?_
      refine g_iconst (v := (1 : Int32)) C dX6_joinAll_15 (by decide) ?_
      refine g_isub C dX6_joinAll_16 ?_
      obtain ⟨i2, hf⟩ := ix_s hf
      refine g_iald C 0 rfl (List.mem_of_getElem? (i := 10) rfl) i2 dX6_joinAll_17 ?_
      obtain ⟨o3, h4, hf⟩ := bind_s hf
      refine g_callS (As := [.int (s.2.2.2.2.2.2.2.2.2.2.2.2.1 (Int32.toNatClampNeg (s.2.2.2.2.2.2.2.2.2.2.2.2.2 - (1 : Int32))))]) (rest := []) C k_X6_strength (fun l => c_X6_strength (E := E) h4 l) mt_667 [] rfl (by decide) rfl (Nat.le_of_ble_eq_true rfl) ⟨Nat.le_of_ble_eq_true rfl, Nat.le_of_ble_eq_true rfl, Nat.le_of_ble_eq_true rfl, Nat.le_of_ble_eq_true rfl⟩ dX6_joinAll_18 ?_
      rintro _ _ ⟨rfl, rfl⟩
      show G E X 2 [md E a s] 0 0 [(0, .ref (a 0)), (1, .int p0)] [.int o3] 21
      refine g_iload_n C dX6_joinAll_21 rfl 1 rfl ?_
      refine g_icmp_lt (tgt := 32) C dX6_joinAll_22 (by decide) (fun c5 => ?_) (fun c5 => ?_)
      · have hf := (f_if hf).1 c5
        refine g_sub (lv2 := []) [] rfl ?_
        exact h32 s hf
      · have hf := (f_if hf).2 c5
        refine g_aload_n C dX6_joinAll_25 rfl 0 rfl ?_
        obtain ⟨o6, h7, hf⟩ := bind_s hf
        refine g_callV (As := []) (rest := []) C k_X6_join (fun l => c_X6_join (E := E) (a := a) (V := s) h7 l) mt_670 [0] rfl (by decide) ⟨_, _, _, _, List.mem_flatten.mpr ⟨_, List.mem_of_getElem? (i := 0) rfl, List.mem_of_getElem? (i := 0) rfl⟩, rfl⟩ rfl (Nat.le_of_ble_eq_true rfl) ⟨Nat.le_of_ble_eq_true rfl, Nat.le_of_ble_eq_true rfl, Nat.le_of_ble_eq_true rfl, Nat.le_of_ble_eq_true rfl⟩ dX6_joinAll_26 ?_
        rintro _ _ ⟨rfl, rfl⟩
        show G E X 2 [md E a o6] 0 0 [(0, .ref (a 0)), (1, .int p0)] [] 29
        refine g_goto (tgt := 0) C dX6_joinAll_29 (by decide) ?_
        exact hK0 o6 hf)
  unfold f_X6_joinAll at hf
  exact h0 N V hf
def f_X6_push (V : Md) (p0 : Int32) : Option (Md) := (ix V.2.2.2.2.2.2.2.2.2.2.2.2.2 64 (some (V.1, V.2.1, V.2.2.1, V.2.2.2.1, V.2.2.2.2.1, V.2.2.2.2.2.1, V.2.2.2.2.2.2.1, V.2.2.2.2.2.2.2.1, V.2.2.2.2.2.2.2.2.1, V.2.2.2.2.2.2.2.2.2.1, V.2.2.2.2.2.2.2.2.2.2.1, V.2.2.2.2.2.2.2.2.2.2.2.1, (upd V.2.2.2.2.2.2.2.2.2.2.2.2.1 (Int32.toNatClampNeg V.2.2.2.2.2.2.2.2.2.2.2.2.2) p0), (V.2.2.2.2.2.2.2.2.2.2.2.2.2 + (1 : Int32)))))
abbrev rm_X6_push : Room := { frames := 0, cells := 0, slots := 0, locals := 0 }
set_option maxRecDepth 100000 in
theorem k_X6_push : CF yX6_push cX6_push 2 (Option.none : Option FieldType) 1 := ⟨mt_661, mp_27, mt_13, mt_662, ⟨rfl, by decide +kernel, by decide +kernel, by decide +kernel⟩⟩
set_option maxHeartbeats 4000000 in
set_option maxRecDepth 100000 in
theorem c_X6_push {E : Ev} {a : Nat → Nat} {V : Md} {p0 : Int32} {o : Md} (hf : f_X6_push V p0 = some o) : ∀ l, MG l yX6_push cX6_push 2 (Option.none : Option FieldType) rm_X6_push E [.ref (a 0), .int p0] [md E a V] (fun v Y => v = none ∧ Y = [md E a o]) := by
  refine MG.mk (own := RX6) (lv0 := [(0, .ref (a 0)), (1, .int p0)]) (by decide) rfl (Nat.le_of_ble_eq_true rfl) rfl (fun X C K I => ?_)
  unfold f_X6_push at hf
  refine g_aload_n C dX6_push_0 rfl 0 rfl ?_
  refine g_get (Cl := RX6) (T := TX6) (N := 14) C mi_X6 0 rfl (List.mem_of_getElem? (i := 0) rfl) rfl 12 (by decide) mt_601 rfl rfl dX6_push_1 ?_
  refine g_aload_n C dX6_push_4 rfl 0 rfl ?_
  refine g_get (Cl := RX6) (T := TX6) (N := 14) C mi_X6 0 rfl (List.mem_of_getElem? (i := 0) rfl) rfl 13 (by decide) mt_602 rfl rfl dX6_push_5 ?_
  refine g_iload_n C dX6_push_8 rfl 1 rfl ?_
  obtain ⟨i1, hf⟩ := ix_s hf
  refine g_iast (Y2 := [md E a (V.1, V.2.1, V.2.2.1, V.2.2.2.1, V.2.2.2.2.1, V.2.2.2.2.2.1, V.2.2.2.2.2.2.1, V.2.2.2.2.2.2.2.1, V.2.2.2.2.2.2.2.2.1, V.2.2.2.2.2.2.2.2.2.1, V.2.2.2.2.2.2.2.2.2.2.1, V.2.2.2.2.2.2.2.2.2.2.2.1, (upd V.2.2.2.2.2.2.2.2.2.2.2.2.1 (Int32.toNatClampNeg V.2.2.2.2.2.2.2.2.2.2.2.2.2) p0), V.2.2.2.2.2.2.2.2.2.2.2.2.2)]) C 0 10 rfl rfl i1 dX6_push_9 rfl ?_
  refine g_aload_n C dX6_push_10 rfl 0 rfl ?_
  refine g_dup C dX6_push_11 rfl ?_
  refine g_get (Cl := RX6) (T := TX6) (N := 14) C mi_X6 0 rfl (List.mem_of_getElem? (i := 0) rfl) rfl 13 (by decide) mt_602 rfl rfl dX6_push_12 ?_
  refine g_iconst (v := (1 : Int32)) C dX6_push_15 (by decide) ?_
  refine g_iadd C dX6_push_16 ?_
  refine g_put (Cl := RX6) (T := TX6) (N := 14) (Y2 := [md E a (V.1, V.2.1, V.2.2.1, V.2.2.2.1, V.2.2.2.2.1, V.2.2.2.2.2.1, V.2.2.2.2.2.2.1, V.2.2.2.2.2.2.2.1, V.2.2.2.2.2.2.2.2.1, V.2.2.2.2.2.2.2.2.2.1, V.2.2.2.2.2.2.2.2.2.2.1, V.2.2.2.2.2.2.2.2.2.2.2.1, (upd V.2.2.2.2.2.2.2.2.2.2.2.2.1 (Int32.toNatClampNeg V.2.2.2.2.2.2.2.2.2.2.2.2.2) p0), (V.2.2.2.2.2.2.2.2.2.2.2.2.2 + (1 : Int32)))]) C mi_X6 tyX6_ok nmX6 0 0 rfl rfl rfl 13 (by decide) mt_602 rfl rfl rfl rfl rfl (Nat.le_of_ble_eq_true rfl) dX6_push_17 rfl ?_
  obtain rfl := Option.some.inj hf
  exact g_ret C K dX6_push_20 (Nat.le_of_ble_eq_true rfl) (Nat.le_of_ble_eq_true rfl) ⟨rfl, rfl⟩
def b_X6_workOut_159 (N : Nat) (V : Md) (p0 : Int32) (K : (Md × Int32) → Option (Md)) (s : Md × Int32) : Option (Md) := K (s.1, (s.2 + (1 : Int32)))
def b_X6_workOut_94 (N : Nat) (V : Md) (p0 : Int32) (K : (Md × Int32) → Option (Md)) (s : Md × Int32 × Int32) : Option (Md) := ((f_X6_strength s.2.2).bind fun o1 => ((f_X6_joinAll N s.1 o1).bind fun o3 => ((f_X6_push o3 s.2.2).bind fun o5 => b_X6_workOut_159 N V p0 K (o5, s.2.1))))
def b_X6_workOut_45 (N : Nat) (V : Md) (p0 : Int32) (K : (Md × Int32) → Option (Md)) (s : Md × Int32 × Int32) : Option (Md) := ((f_X6_push s.1 s.2.2).bind fun o7 => b_X6_workOut_159 N V p0 K (o7, s.2.1))
def b_X6_workOut_12 (N : Nat) (V : Md) (p0 : Int32) (K : (Md × Int32) → Option (Md)) (s : Md × Int32) : Option (Md) := (if (s.1.1 (Int32.toNatClampNeg (22 : Int32))) ≤ s.2 then ((f_X6_joinAll N s.1 (1 : Int32)).bind fun o10 => some o10) else (ix ((23 : Int32) + s.2) 173 (if (s.1.1 (Int32.toNatClampNeg ((23 : Int32) + s.2))) = (33 : Int32) then b_X6_workOut_45 N V p0 K (s.1, s.2, (s.1.1 (Int32.toNatClampNeg ((23 : Int32) + s.2)))) else (if (s.1.1 (Int32.toNatClampNeg ((23 : Int32) + s.2))) = (40 : Int32) then b_X6_workOut_45 N V p0 K (s.1, s.2, (s.1.1 (Int32.toNatClampNeg ((23 : Int32) + s.2)))) else (if (s.1.1 (Int32.toNatClampNeg ((23 : Int32) + s.2))) = (41 : Int32) then ((f_X6_joinAll N s.1 (1 : Int32)).bind fun o25 => ((f_X6_joinAll N (o25.1, o25.2.1, o25.2.2.1, o25.2.2.2.1, o25.2.2.2.2.1, o25.2.2.2.2.2.1, o25.2.2.2.2.2.2.1, o25.2.2.2.2.2.2.2.1, o25.2.2.2.2.2.2.2.2.1, o25.2.2.2.2.2.2.2.2.2.1, o25.2.2.2.2.2.2.2.2.2.2.1, o25.2.2.2.2.2.2.2.2.2.2.2.1, o25.2.2.2.2.2.2.2.2.2.2.2.2.1, (o25.2.2.2.2.2.2.2.2.2.2.2.2.2 - (1 : Int32))) (3 : Int32)).bind fun o27 => b_X6_workOut_159 N V p0 K (o27, s.2))) else (if (s.1.1 (Int32.toNatClampNeg ((23 : Int32) + s.2))) = (38 : Int32) then b_X6_workOut_94 N V p0 K (s.1, s.2, (s.1.1 (Int32.toNatClampNeg ((23 : Int32) + s.2)))) else (if (s.1.1 (Int32.toNatClampNeg ((23 : Int32) + s.2))) = (124 : Int32) then b_X6_workOut_94 N V p0 K (s.1, s.2, (s.1.1 (Int32.toNatClampNeg ((23 : Int32) + s.2)))) else ((f_X6_isSo (s.1.1 (Int32.toNatClampNeg ((23 : Int32) + s.2))) p0).bind fun o18 => (ix s.1.2.2.2.2.2.2.2.2.2.2.2.1 64 (ix s.1.2.2.2.2.2.2.2.2.2.2.2.1 64 (ix s.1.2.2.2.2.2.2.2.2.2.2.2.1 64 ((f_X6_joinAll N (s.1.1, s.1.2.1, s.1.2.2.1, s.1.2.2.2.1, s.1.2.2.2.2.1, s.1.2.2.2.2.2.1, s.1.2.2.2.2.2.2.1, s.1.2.2.2.2.2.2.2.1, (upd s.1.2.2.2.2.2.2.2.2.1 (Int32.toNatClampNeg s.1.2.2.2.2.2.2.2.2.2.2.2.1) (vp_nar .boolean o18)), (upd s.1.2.2.2.2.2.2.2.2.2.1 (Int32.toNatClampNeg s.1.2.2.2.2.2.2.2.2.2.2.2.1) (1 : Int32)), (upd s.1.2.2.2.2.2.2.2.2.2.2.1 (Int32.toNatClampNeg s.1.2.2.2.2.2.2.2.2.2.2.2.1) (1 : Int32)), (s.1.2.2.2.2.2.2.2.2.2.2.2.1 + (1 : Int32)), s.1.2.2.2.2.2.2.2.2.2.2.2.2.1, s.1.2.2.2.2.2.2.2.2.2.2.2.2.2) (3 : Int32)).bind fun o23 => b_X6_workOut_159 N V p0 K (o23, s.2)))))))))))))
def f_X6_workOut (N : Nat) (V : Md) (p0 : Int32) : Option (Md) := lp (b_X6_workOut_12 N V p0) N ((V.1, V.2.1, V.2.2.1, V.2.2.2.1, V.2.2.2.2.1, V.2.2.2.2.2.1, V.2.2.2.2.2.2.1, V.2.2.2.2.2.2.2.1, V.2.2.2.2.2.2.2.2.1, V.2.2.2.2.2.2.2.2.2.1, V.2.2.2.2.2.2.2.2.2.2.1, (0 : Int32), V.2.2.2.2.2.2.2.2.2.2.2.2.1, (0 : Int32)), (0 : Int32))
abbrev rm_X6_workOut : Room := { frames := 2, cells := 0, slots := 0, locals := 45 }
set_option maxRecDepth 100000 in
theorem k_X6_workOut : CF yX6_workOut cX6_workOut 4 (Option.none : Option FieldType) 1 := ⟨mt_657, mp_26, mt_13, mt_658, ⟨rfl, by decide +kernel, by decide +kernel, by decide +kernel⟩⟩
set_option maxHeartbeats 4000000 in
set_option maxRecDepth 100000 in
theorem c_X6_workOut {E : Ev} {a : Nat → Nat} {V : Md} {p0 : Int32} {N : Nat} {o : Md} (hf : f_X6_workOut N V p0 = some o) : ∀ l, MG l yX6_workOut cX6_workOut 4 (Option.none : Option FieldType) rm_X6_workOut E [.ref (a 0), .int p0] [md E a V] (fun v Y => v = none ∧ Y = [md E a o]) := by
  refine MG.mk (own := RX6) (lv0 := [(0, .ref (a 0)), (1, .int p0)]) (by decide) rfl (Nat.le_of_ble_eq_true rfl) rfl (fun X C K I => ?_)
  have h159 : ∀ (K : (Md × Int32) → Option (Md)), (∀ s : Md × Int32, K s = some o → G E X 4 [md E a s.1] 0 0 [(0, .ref (a 0)), (1, .int p0), (2, .int s.2)] [] 12) → ∀ s : Md × Int32, b_X6_workOut_159 N V p0 K s = some o → G E X 4 [md E a s.1] 0 0 [(0, .ref (a 0)), (1, .int p0), (2, .int s.2)] [] 159 := by
    intro K12 hK12 s hf
    unfold b_X6_workOut_159 at hf
    refine g_iinc (v := (s.2 + (1 : Int32))) (lv2 := [(2, .int (s.2 + (1 : Int32))), (0, .ref (a 0)), (1, .int p0)]) C dX6_workOut_159 2 rfl (ii (by decide)) (by decide) rfl ?_
    refine g_goto (tgt := 12) C dX6_workOut_162 (by decide) ?_
    refine g_sub (lv2 := [(0, .ref (a 0)), (1, .int p0), (2, .int (s.2 + (1 : Int32)))]) [1, 2, 0] rfl ?_
    exact hK12 (s.1, (s.2 + (1 : Int32))) hf
  have h94 : ∀ (K : (Md × Int32) → Option (Md)), (∀ s : Md × Int32, K s = some o → G E X 4 [md E a s.1] 0 0 [(0, .ref (a 0)), (1, .int p0), (2, .int s.2)] [] 12) → ∀ s : Md × Int32 × Int32, b_X6_workOut_94 N V p0 K s = some o → G E X 4 [md E a s.1] 0 0 [(0, .ref (a 0)), (1, .int p0), (2, .int s.2.1), (3, .int s.2.2)] [] 94 := by
    intro K12 hK12 s hf
    unfold b_X6_workOut_94 at hf
    refine g_aload_n C dX6_workOut_94 rfl 0 rfl ?_
    refine g_iload_n C dX6_workOut_95 rfl 3 rfl ?_
    obtain ⟨o1, h2, hf⟩ := bind_s hf
    refine g_callS (As := [.int s.2.2]) (rest := [.ref (a 0)]) C k_X6_strength (fun l => c_X6_strength (E := E) h2 l) mt_667 [] rfl (by decide) rfl (Nat.le_of_ble_eq_true rfl) ⟨Nat.le_of_ble_eq_true rfl, Nat.le_of_ble_eq_true rfl, Nat.le_of_ble_eq_true rfl, Nat.le_of_ble_eq_true rfl⟩ dX6_workOut_96 ?_
    rintro _ _ ⟨rfl, rfl⟩
    show G E X 4 [md E a s.1] 0 0 [(0, .ref (a 0)), (1, .int p0), (2, .int s.2.1), (3, .int s.2.2)] [.int o1, .ref (a 0)] 99
    obtain ⟨o3, h4, hf⟩ := bind_s hf
    refine g_callV (As := [.int o1]) (rest := []) C k_X6_joinAll (fun l => c_X6_joinAll (E := E) (a := a) (V := s.1) h4 l) mt_663 [0] rfl (by decide) ⟨_, _, _, _, List.mem_flatten.mpr ⟨_, List.mem_of_getElem? (i := 0) rfl, List.mem_of_getElem? (i := 0) rfl⟩, rfl⟩ rfl (Nat.le_of_ble_eq_true rfl) ⟨Nat.le_of_ble_eq_true rfl, Nat.le_of_ble_eq_true rfl, Nat.le_of_ble_eq_true rfl, Nat.le_of_ble_eq_true rfl⟩ dX6_workOut_99 ?_
    rintro _ _ ⟨rfl, rfl⟩
    show G E X 4 [md E a o3] 0 0 [(0, .ref (a 0)), (1, .int p0), (2, .int s.2.1), (3, .int s.2.2)] [] 102
    refine g_aload_n C dX6_workOut_102 rfl 0 rfl ?_
    refine g_iload_n C dX6_workOut_103 rfl 3 rfl ?_
    obtain ⟨o5, h6, hf⟩ := bind_s hf
    refine g_callV (As := [.int s.2.2]) (rest := []) C k_X6_push (fun l => c_X6_push (E := E) (a := a) (V := o3) h6 l) mt_659 [0] rfl (by decide) ⟨_, _, _, _, List.mem_flatten.mpr ⟨_, List.mem_of_getElem? (i := 0) rfl, List.mem_of_getElem? (i := 0) rfl⟩, rfl⟩ rfl (Nat.le_of_ble_eq_true rfl) ⟨Nat.le_of_ble_eq_true rfl, Nat.le_of_ble_eq_true rfl, Nat.le_of_ble_eq_true rfl, Nat.le_of_ble_eq_true rfl⟩ dX6_workOut_104 ?_
    rintro _ _ ⟨rfl, rfl⟩
    show G E X 4 [md E a o5] 0 0 [(0, .ref (a 0)), (1, .int p0), (2, .int s.2.1), (3, .int s.2.2)] [] 107
    refine g_goto (tgt := 159) C dX6_workOut_107 (by decide) ?_
    refine g_sub (lv2 := [(0, .ref (a 0)), (1, .int p0), (2, .int s.2.1)]) [0, 1, 2] rfl ?_
    exact h159 _ hK12 (o5, s.2.1) hf
  have h45 : ∀ (K : (Md × Int32) → Option (Md)), (∀ s : Md × Int32, K s = some o → G E X 4 [md E a s.1] 0 0 [(0, .ref (a 0)), (1, .int p0), (2, .int s.2)] [] 12) → ∀ s : Md × Int32 × Int32, b_X6_workOut_45 N V p0 K s = some o → G E X 4 [md E a s.1] 0 0 [(0, .ref (a 0)), (1, .int p0), (2, .int s.2.1), (3, .int s.2.2)] [] 45 := by
    intro K12 hK12 s hf
    unfold b_X6_workOut_45 at hf
    refine g_aload_n C dX6_workOut_45 rfl 0 rfl ?_
    refine g_iload_n C dX6_workOut_46 rfl 3 rfl ?_
    obtain ⟨o7, h8, hf⟩ := bind_s hf
    refine g_callV (As := [.int s.2.2]) (rest := []) C k_X6_push (fun l => c_X6_push (E := E) (a := a) (V := s.1) h8 l) mt_659 [0] rfl (by decide) ⟨_, _, _, _, List.mem_flatten.mpr ⟨_, List.mem_of_getElem? (i := 0) rfl, List.mem_of_getElem? (i := 0) rfl⟩, rfl⟩ rfl (Nat.le_of_ble_eq_true rfl) ⟨Nat.le_of_ble_eq_true rfl, Nat.le_of_ble_eq_true rfl, Nat.le_of_ble_eq_true rfl, Nat.le_of_ble_eq_true rfl⟩ dX6_workOut_47 ?_
    rintro _ _ ⟨rfl, rfl⟩
    show G E X 4 [md E a o7] 0 0 [(0, .ref (a 0)), (1, .int p0), (2, .int s.2.1), (3, .int s.2.2)] [] 50
    refine g_goto (tgt := 159) C dX6_workOut_50 (by decide) ?_
    refine g_sub (lv2 := [(0, .ref (a 0)), (1, .int p0), (2, .int s.2.1)]) [0, 1, 2] rfl ?_
    exact h159 _ hK12 (o7, s.2.1) hf
  have h12 : ∀ (n : Nat) (s : Md × Int32), lp (b_X6_workOut_12 N V p0) n s = some o → G E X 4 [md E a s.1] 0 0 [(0, .ref (a 0)), (1, .int p0), (2, .int s.2)] [] 12 := lp_ind (by
    intro K12 hK12 s hf
    unfold b_X6_workOut_12 at hf
    refine g_iload_n C dX6_workOut_12 rfl 2 rfl ?_
    refine g_aload_n C dX6_workOut_13 rfl 0 rfl ?_
    refine g_get (Cl := RX6) (T := TX6) (N := 14) C mi_X6 0 rfl (List.mem_of_getElem? (i := 0) rfl) rfl 0 (by decide) mt_589 rfl rfl dX6_workOut_14 ?_
    refine g_bipush (v := (22 : Int32)) C dX6_workOut_17 (by decide) ?_
    refine g_iald C 0 rfl (List.mem_of_getElem? (i := 1) rfl) (by show ¬ (_ ∨ _); decide) dX6_workOut_19 ?_
    refine g_icmp_ge (tgt := 165) C dX6_workOut_20 (by decide) (fun c9 => ?_) (fun c9 => ?_)
    · have hf := (f_if hf).1 c9
      refine g_aload_n C dX6_workOut_165 rfl 0 rfl ?_
      refine g_iconst (v := (1 : Int32)) C dX6_workOut_166 (by decide) ?_
      obtain ⟨o10, h11, hf⟩ := bind_s hf
      refine g_callV (As := [.int (1 : Int32)]) (rest := []) C k_X6_joinAll (fun l => c_X6_joinAll (E := E) (a := a) (V := s.1) h11 l) mt_663 [0] rfl (by decide) ⟨_, _, _, _, List.mem_flatten.mpr ⟨_, List.mem_of_getElem? (i := 0) rfl, List.mem_of_getElem? (i := 0) rfl⟩, rfl⟩ rfl (Nat.le_of_ble_eq_true rfl) ⟨Nat.le_of_ble_eq_true rfl, Nat.le_of_ble_eq_true rfl, Nat.le_of_ble_eq_true rfl, Nat.le_of_ble_eq_true rfl⟩ dX6_workOut_167 ?_
      rintro _ _ ⟨rfl, rfl⟩
      show G E X 4 [md E a o10] 0 0 [(0, .ref (a 0)), (1, .int p0), (2, .int s.2)] [] 170
      obtain rfl := Option.some.inj hf
      exact g_ret C K dX6_workOut_170 (Nat.le_of_ble_eq_true rfl) (Nat.le_of_ble_eq_true rfl) ⟨rfl, rfl⟩
    · have hf := (f_if hf).2 c9
      refine g_aload_n C dX6_workOut_23 rfl 0 rfl ?_
      refine g_get (Cl := RX6) (T := TX6) (N := 14) C mi_X6 0 rfl (List.mem_of_getElem? (i := 0) rfl) rfl 0 (by decide) mt_589 rfl rfl dX6_workOut_24 ?_
      refine g_bipush (v := (23 : Int32)) C dX6_workOut_27 (by decide) ?_
      refine g_iload_n C dX6_workOut_29 rfl 2 rfl ?_
      refine g_iadd C dX6_workOut_30 ?_
      obtain ⟨i12, hf⟩ := ix_s hf
      refine g_iald C 0 rfl (List.mem_of_getElem? (i := 1) rfl) i12 dX6_workOut_31 ?_
      refine g_istore_n (lv2 := [(3, .int (s.1.1 (Int32.toNatClampNeg ((23 : Int32) + s.2)))), (0, .ref (a 0)), (1, .int p0), (2, .int s.2)]) C dX6_workOut_32 rfl (by decide) rfl ?_
      refine g_iload_n C dX6_workOut_33 rfl 0 rfl ?_
      refine g_bipush (v := (33 : Int32)) C dX6_workOut_34 (by decide) ?_
      refine g_icmp_eq (tgt := 45) C dX6_workOut_36 (by decide) (fun c13 => ?_) (fun c13 => ?_)
      · have hf := (f_if hf).1 c13
        refine g_sub (lv2 := [(0, .ref (a 0)), (1, .int p0), (2, .int s.2), (3, .int (s.1.1 (Int32.toNatClampNeg ((23 : Int32) + s.2))))]) [1, 2, 3, 0] rfl ?_
        exact h45 _ hK12 (s.1, s.2, (s.1.1 (Int32.toNatClampNeg ((23 : Int32) + s.2)))) hf
      · have hf := (f_if hf).2 c13
        refine g_iload_n C dX6_workOut_39 rfl 0 rfl ?_
        refine g_bipush (v := (40 : Int32)) C dX6_workOut_40 (by decide) ?_
        refine g_icmp_ne (tgt := 53) C dX6_workOut_42 (by decide) (fun c14 => ?_) (fun c14 => ?_)
        · have hf := (f_if hf).2 c14
          refine g_iload_n C dX6_workOut_53 rfl 0 rfl ?_
          refine g_bipush (v := (41 : Int32)) C dX6_workOut_54 (by decide) ?_
          refine g_icmp_ne (tgt := 82) C dX6_workOut_56 (by decide) (fun c15 => ?_) (fun c15 => ?_)
          · have hf := (f_if hf).2 c15
            refine g_iload_n C dX6_workOut_82 rfl 0 rfl ?_
            refine g_bipush (v := (38 : Int32)) C dX6_workOut_83 (by decide) ?_
            refine g_icmp_eq (tgt := 94) C dX6_workOut_85 (by decide) (fun c16 => ?_) (fun c16 => ?_)
            · have hf := (f_if hf).1 c16
              refine g_sub (lv2 := [(0, .ref (a 0)), (1, .int p0), (2, .int s.2), (3, .int (s.1.1 (Int32.toNatClampNeg ((23 : Int32) + s.2))))]) [1, 2, 3, 0] rfl ?_
              exact h94 _ hK12 (s.1, s.2, (s.1.1 (Int32.toNatClampNeg ((23 : Int32) + s.2)))) hf
            · have hf := (f_if hf).2 c16
              refine g_iload_n C dX6_workOut_88 rfl 0 rfl ?_
              refine g_bipush (v := (124 : Int32)) C dX6_workOut_89 (by decide) ?_
              refine g_icmp_ne (tgt := 110) C dX6_workOut_91 (by decide) (fun c17 => ?_) (fun c17 => ?_)
              · have hf := (f_if hf).2 c17
                refine g_aload_n C dX6_workOut_110 rfl 1 rfl ?_
                refine g_get (Cl := RX6) (T := TX6) (N := 14) C mi_X6 0 rfl (List.mem_of_getElem? (i := 0) rfl) rfl 8 (by decide) mt_597 rfl rfl dX6_workOut_111 ?_
                refine g_aload_n C dX6_workOut_114 rfl 1 rfl ?_
                refine g_get (Cl := RX6) (T := TX6) (N := 14) C mi_X6 0 rfl (List.mem_of_getElem? (i := 0) rfl) rfl 11 (by decide) mt_600 rfl rfl dX6_workOut_115 ?_
                refine g_iload_n C dX6_workOut_118 rfl 0 rfl ?_
                refine g_iload_n C dX6_workOut_119 rfl 2 rfl ?_
                obtain ⟨o18, h19, hf⟩ := bind_s hf
                refine g_callS (As := [.int (s.1.1 (Int32.toNatClampNeg ((23 : Int32) + s.2))), .int p0]) (rest := [.int s.1.2.2.2.2.2.2.2.2.2.2.2.1, .ref (a 7)]) C k_X6_isSo (fun l => c_X6_isSo (E := E) h19 l) mt_674 [] rfl (by decide) rfl (Nat.le_of_ble_eq_true rfl) ⟨Nat.le_of_ble_eq_true rfl, Nat.le_of_ble_eq_true rfl, Nat.le_of_ble_eq_true rfl, Nat.le_of_ble_eq_true rfl⟩ dX6_workOut_120 ?_
                rintro _ _ ⟨rfl, rfl⟩
                show G E X 4 [md E a s.1] 0 0 [(3, .int (s.1.1 (Int32.toNatClampNeg ((23 : Int32) + s.2)))), (0, .ref (a 0)), (1, .int p0), (2, .int s.2)] [.int o18, .int s.1.2.2.2.2.2.2.2.2.2.2.2.1, .ref (a 7)] 123
                obtain ⟨i20, hf⟩ := ix_s hf
                refine g_zast (Y2 := [md E a (s.1.1, s.1.2.1, s.1.2.2.1, s.1.2.2.2.1, s.1.2.2.2.2.1, s.1.2.2.2.2.2.1, s.1.2.2.2.2.2.2.1, s.1.2.2.2.2.2.2.2.1, (upd s.1.2.2.2.2.2.2.2.2.1 (Int32.toNatClampNeg s.1.2.2.2.2.2.2.2.2.2.2.2.1) (vp_nar .boolean o18)), s.1.2.2.2.2.2.2.2.2.2.1, s.1.2.2.2.2.2.2.2.2.2.2.1, s.1.2.2.2.2.2.2.2.2.2.2.2.1, s.1.2.2.2.2.2.2.2.2.2.2.2.2.1, s.1.2.2.2.2.2.2.2.2.2.2.2.2.2)]) C 0 7 rfl rfl i20 dX6_workOut_123 rfl ?_
                refine g_aload_n C dX6_workOut_124 rfl 1 rfl ?_
                refine g_get (Cl := RX6) (T := TX6) (N := 14) C mi_X6 0 rfl (List.mem_of_getElem? (i := 0) rfl) rfl 9 (by decide) mt_598 rfl rfl dX6_workOut_125 ?_
                refine g_aload_n C dX6_workOut_128 rfl 1 rfl ?_
                refine g_get (Cl := RX6) (T := TX6) (N := 14) C mi_X6 0 rfl (List.mem_of_getElem? (i := 0) rfl) rfl 11 (by decide) mt_600 rfl rfl dX6_workOut_129 ?_
                refine g_iconst (v := (1 : Int32)) C dX6_workOut_132 (by decide) ?_
                obtain ⟨i21, hf⟩ := ix_s hf
                refine g_iast (Y2 := [md E a (s.1.1, s.1.2.1, s.1.2.2.1, s.1.2.2.2.1, s.1.2.2.2.2.1, s.1.2.2.2.2.2.1, s.1.2.2.2.2.2.2.1, s.1.2.2.2.2.2.2.2.1, (upd s.1.2.2.2.2.2.2.2.2.1 (Int32.toNatClampNeg s.1.2.2.2.2.2.2.2.2.2.2.2.1) (vp_nar .boolean o18)), (upd s.1.2.2.2.2.2.2.2.2.2.1 (Int32.toNatClampNeg s.1.2.2.2.2.2.2.2.2.2.2.2.1) (1 : Int32)), s.1.2.2.2.2.2.2.2.2.2.2.1, s.1.2.2.2.2.2.2.2.2.2.2.2.1, s.1.2.2.2.2.2.2.2.2.2.2.2.2.1, s.1.2.2.2.2.2.2.2.2.2.2.2.2.2)]) C 0 8 rfl rfl i21 dX6_workOut_133 rfl ?_
                refine g_aload_n C dX6_workOut_134 rfl 1 rfl ?_
                refine g_get (Cl := RX6) (T := TX6) (N := 14) C mi_X6 0 rfl (List.mem_of_getElem? (i := 0) rfl) rfl 10 (by decide) mt_599 rfl rfl dX6_workOut_135 ?_
                refine g_aload_n C dX6_workOut_138 rfl 1 rfl ?_
                refine g_get (Cl := RX6) (T := TX6) (N := 14) C mi_X6 0 rfl (List.mem_of_getElem? (i := 0) rfl) rfl 11 (by decide) mt_600 rfl rfl dX6_workOut_139 ?_
                refine g_iconst (v := (1 : Int32)) C dX6_workOut_142 (by decide) ?_
                obtain ⟨i22, hf⟩ := ix_s hf
                refine g_iast (Y2 := [md E a (s.1.1, s.1.2.1, s.1.2.2.1, s.1.2.2.2.1, s.1.2.2.2.2.1, s.1.2.2.2.2.2.1, s.1.2.2.2.2.2.2.1, s.1.2.2.2.2.2.2.2.1, (upd s.1.2.2.2.2.2.2.2.2.1 (Int32.toNatClampNeg s.1.2.2.2.2.2.2.2.2.2.2.2.1) (vp_nar .boolean o18)), (upd s.1.2.2.2.2.2.2.2.2.2.1 (Int32.toNatClampNeg s.1.2.2.2.2.2.2.2.2.2.2.2.1) (1 : Int32)), (upd s.1.2.2.2.2.2.2.2.2.2.2.1 (Int32.toNatClampNeg s.1.2.2.2.2.2.2.2.2.2.2.2.1) (1 : Int32)), s.1.2.2.2.2.2.2.2.2.2.2.2.1, s.1.2.2.2.2.2.2.2.2.2.2.2.2.1, s.1.2.2.2.2.2.2.2.2.2.2.2.2.2)]) C 0 9 rfl rfl i22 dX6_workOut_143 rfl ?_
                refine g_aload_n C dX6_workOut_144 rfl 1 rfl ?_
                refine g_dup C dX6_workOut_145 rfl ?_
                refine g_get (Cl := RX6) (T := TX6) (N := 14) C mi_X6 0 rfl (List.mem_of_getElem? (i := 0) rfl) rfl 11 (by decide) mt_600 rfl rfl dX6_workOut_146 ?_
                refine g_iconst (v := (1 : Int32)) C dX6_workOut_149 (by decide) ?_
                refine g_iadd C dX6_workOut_150 ?_
                refine g_put (Cl := RX6) (T := TX6) (N := 14) (Y2 := [md E a (s.1.1, s.1.2.1, s.1.2.2.1, s.1.2.2.2.1, s.1.2.2.2.2.1, s.1.2.2.2.2.2.1, s.1.2.2.2.2.2.2.1, s.1.2.2.2.2.2.2.2.1, (upd s.1.2.2.2.2.2.2.2.2.1 (Int32.toNatClampNeg s.1.2.2.2.2.2.2.2.2.2.2.2.1) (vp_nar .boolean o18)), (upd s.1.2.2.2.2.2.2.2.2.2.1 (Int32.toNatClampNeg s.1.2.2.2.2.2.2.2.2.2.2.2.1) (1 : Int32)), (upd s.1.2.2.2.2.2.2.2.2.2.2.1 (Int32.toNatClampNeg s.1.2.2.2.2.2.2.2.2.2.2.2.1) (1 : Int32)), (s.1.2.2.2.2.2.2.2.2.2.2.2.1 + (1 : Int32)), s.1.2.2.2.2.2.2.2.2.2.2.2.2.1, s.1.2.2.2.2.2.2.2.2.2.2.2.2.2)]) C mi_X6 tyX6_ok nmX6 0 0 rfl rfl rfl 11 (by decide) mt_600 rfl rfl rfl rfl rfl (Nat.le_of_ble_eq_true rfl) dX6_workOut_151 rfl ?_
                refine g_aload_n C dX6_workOut_154 rfl 1 rfl ?_
                refine g_iconst (v := (3 : Int32)) C dX6_workOut_155 (by decide) ?_
                obtain ⟨o23, h24, hf⟩ := bind_s hf
                refine g_callV (As := [.int (3 : Int32)]) (rest := []) C k_X6_joinAll (fun l => c_X6_joinAll (E := E) (a := a) (V := (s.1.1, s.1.2.1, s.1.2.2.1, s.1.2.2.2.1, s.1.2.2.2.2.1, s.1.2.2.2.2.2.1, s.1.2.2.2.2.2.2.1, s.1.2.2.2.2.2.2.2.1, (upd s.1.2.2.2.2.2.2.2.2.1 (Int32.toNatClampNeg s.1.2.2.2.2.2.2.2.2.2.2.2.1) (vp_nar .boolean o18)), (upd s.1.2.2.2.2.2.2.2.2.2.1 (Int32.toNatClampNeg s.1.2.2.2.2.2.2.2.2.2.2.2.1) (1 : Int32)), (upd s.1.2.2.2.2.2.2.2.2.2.2.1 (Int32.toNatClampNeg s.1.2.2.2.2.2.2.2.2.2.2.2.1) (1 : Int32)), (s.1.2.2.2.2.2.2.2.2.2.2.2.1 + (1 : Int32)), s.1.2.2.2.2.2.2.2.2.2.2.2.2.1, s.1.2.2.2.2.2.2.2.2.2.2.2.2.2)) h24 l) mt_663 [0] rfl (by decide) ⟨_, _, _, _, List.mem_flatten.mpr ⟨_, List.mem_of_getElem? (i := 0) rfl, List.mem_of_getElem? (i := 0) rfl⟩, rfl⟩ rfl (Nat.le_of_ble_eq_true rfl) ⟨Nat.le_of_ble_eq_true rfl, Nat.le_of_ble_eq_true rfl, Nat.le_of_ble_eq_true rfl, Nat.le_of_ble_eq_true rfl⟩ dX6_workOut_156 ?_
                rintro _ _ ⟨rfl, rfl⟩
                show G E X 4 [md E a o23] 0 0 [(3, .int (s.1.1 (Int32.toNatClampNeg ((23 : Int32) + s.2)))), (0, .ref (a 0)), (1, .int p0), (2, .int s.2)] [] 159
                refine g_sub (lv2 := [(0, .ref (a 0)), (1, .int p0), (2, .int s.2)]) [1, 2, 3] rfl ?_
                exact h159 _ hK12 (o23, s.2) hf
              · have hf := (f_if hf).1 c17
                refine g_sub (lv2 := [(0, .ref (a 0)), (1, .int p0), (2, .int s.2), (3, .int (s.1.1 (Int32.toNatClampNeg ((23 : Int32) + s.2))))]) [1, 2, 3, 0] rfl ?_
                exact h94 _ hK12 (s.1, s.2, (s.1.1 (Int32.toNatClampNeg ((23 : Int32) + s.2)))) hf
          · have hf := (f_if hf).1 c15
            refine g_aload_n C dX6_workOut_59 rfl 1 rfl ?_
            refine g_iconst (v := (1 : Int32)) C dX6_workOut_60 (by decide) ?_
            obtain ⟨o25, h26, hf⟩ := bind_s hf
            refine g_callV (As := [.int (1 : Int32)]) (rest := []) C k_X6_joinAll (fun l => c_X6_joinAll (E := E) (a := a) (V := s.1) h26 l) mt_663 [0] rfl (by decide) ⟨_, _, _, _, List.mem_flatten.mpr ⟨_, List.mem_of_getElem? (i := 0) rfl, List.mem_of_getElem? (i := 0) rfl⟩, rfl⟩ rfl (Nat.le_of_ble_eq_true rfl) ⟨Nat.le_of_ble_eq_true rfl, Nat.le_of_ble_eq_true rfl, Nat.le_of_ble_eq_true rfl, Nat.le_of_ble_eq_true rfl⟩ dX6_workOut_61 ?_
            rintro _ _ ⟨rfl, rfl⟩
            show G E X 4 [md E a o25] 0 0 [(3, .int (s.1.1 (Int32.toNatClampNeg ((23 : Int32) + s.2)))), (0, .ref (a 0)), (1, .int p0), (2, .int s.2)] [] 64
            refine g_aload_n C dX6_workOut_64 rfl 1 rfl ?_
            refine g_dup C dX6_workOut_65 rfl ?_
            refine g_get (Cl := RX6) (T := TX6) (N := 14) C mi_X6 0 rfl (List.mem_of_getElem? (i := 0) rfl) rfl 13 (by decide) mt_602 rfl rfl dX6_workOut_66 ?_
            refine g_iconst (v := (1 : Int32)) C dX6_workOut_69 (by decide) ?_
            refine g_isub C dX6_workOut_70 ?_
            refine g_put (Cl := RX6) (T := TX6) (N := 14) (Y2 := [md E a (o25.1, o25.2.1, o25.2.2.1, o25.2.2.2.1, o25.2.2.2.2.1, o25.2.2.2.2.2.1, o25.2.2.2.2.2.2.1, o25.2.2.2.2.2.2.2.1, o25.2.2.2.2.2.2.2.2.1, o25.2.2.2.2.2.2.2.2.2.1, o25.2.2.2.2.2.2.2.2.2.2.1, o25.2.2.2.2.2.2.2.2.2.2.2.1, o25.2.2.2.2.2.2.2.2.2.2.2.2.1, (o25.2.2.2.2.2.2.2.2.2.2.2.2.2 - (1 : Int32)))]) C mi_X6 tyX6_ok nmX6 0 0 rfl rfl rfl 13 (by decide) mt_602 rfl rfl rfl rfl rfl (Nat.le_of_ble_eq_true rfl) dX6_workOut_71 rfl ?_
            refine g_aload_n C dX6_workOut_74 rfl 1 rfl ?_
            refine g_iconst (v := (3 : Int32)) C dX6_workOut_75 (by decide) ?_
            obtain ⟨o27, h28, hf⟩ := bind_s hf
            refine g_callV (As := [.int (3 : Int32)]) (rest := []) C k_X6_joinAll (fun l => c_X6_joinAll (E := E) (a := a) (V := (o25.1, o25.2.1, o25.2.2.1, o25.2.2.2.1, o25.2.2.2.2.1, o25.2.2.2.2.2.1, o25.2.2.2.2.2.2.1, o25.2.2.2.2.2.2.2.1, o25.2.2.2.2.2.2.2.2.1, o25.2.2.2.2.2.2.2.2.2.1, o25.2.2.2.2.2.2.2.2.2.2.1, o25.2.2.2.2.2.2.2.2.2.2.2.1, o25.2.2.2.2.2.2.2.2.2.2.2.2.1, (o25.2.2.2.2.2.2.2.2.2.2.2.2.2 - (1 : Int32)))) h28 l) mt_663 [0] rfl (by decide) ⟨_, _, _, _, List.mem_flatten.mpr ⟨_, List.mem_of_getElem? (i := 0) rfl, List.mem_of_getElem? (i := 0) rfl⟩, rfl⟩ rfl (Nat.le_of_ble_eq_true rfl) ⟨Nat.le_of_ble_eq_true rfl, Nat.le_of_ble_eq_true rfl, Nat.le_of_ble_eq_true rfl, Nat.le_of_ble_eq_true rfl⟩ dX6_workOut_76 ?_
            rintro _ _ ⟨rfl, rfl⟩
            show G E X 4 [md E a o27] 0 0 [(3, .int (s.1.1 (Int32.toNatClampNeg ((23 : Int32) + s.2)))), (0, .ref (a 0)), (1, .int p0), (2, .int s.2)] [] 79
            refine g_goto (tgt := 159) C dX6_workOut_79 (by decide) ?_
            refine g_sub (lv2 := [(0, .ref (a 0)), (1, .int p0), (2, .int s.2)]) [1, 2, 3] rfl ?_
            exact h159 _ hK12 (o27, s.2) hf
        · have hf := (f_if hf).1 c14
          refine g_sub (lv2 := [(0, .ref (a 0)), (1, .int p0), (2, .int s.2), (3, .int (s.1.1 (Int32.toNatClampNeg ((23 : Int32) + s.2))))]) [1, 2, 3, 0] rfl ?_
          exact h45 _ hK12 (s.1, s.2, (s.1.1 (Int32.toNatClampNeg ((23 : Int32) + s.2)))) hf)
  unfold f_X6_workOut at hf
  refine g_aload_n C dX6_workOut_0 rfl 0 rfl ?_
  refine g_iconst (v := (0 : Int32)) C dX6_workOut_1 (by decide) ?_
  refine g_put (Cl := RX6) (T := TX6) (N := 14) (Y2 := [md E a (V.1, V.2.1, V.2.2.1, V.2.2.2.1, V.2.2.2.2.1, V.2.2.2.2.2.1, V.2.2.2.2.2.2.1, V.2.2.2.2.2.2.2.1, V.2.2.2.2.2.2.2.2.1, V.2.2.2.2.2.2.2.2.2.1, V.2.2.2.2.2.2.2.2.2.2.1, (0 : Int32), V.2.2.2.2.2.2.2.2.2.2.2.2.1, V.2.2.2.2.2.2.2.2.2.2.2.2.2)]) C mi_X6 tyX6_ok nmX6 0 0 rfl rfl rfl 11 (by decide) mt_600 rfl rfl rfl rfl rfl (Nat.le_of_ble_eq_true rfl) dX6_workOut_2 rfl ?_
  refine g_aload_n C dX6_workOut_5 rfl 0 rfl ?_
  refine g_iconst (v := (0 : Int32)) C dX6_workOut_6 (by decide) ?_
  refine g_put (Cl := RX6) (T := TX6) (N := 14) (Y2 := [md E a (V.1, V.2.1, V.2.2.1, V.2.2.2.1, V.2.2.2.2.1, V.2.2.2.2.2.1, V.2.2.2.2.2.2.1, V.2.2.2.2.2.2.2.1, V.2.2.2.2.2.2.2.2.1, V.2.2.2.2.2.2.2.2.2.1, V.2.2.2.2.2.2.2.2.2.2.1, (0 : Int32), V.2.2.2.2.2.2.2.2.2.2.2.2.1, (0 : Int32))]) C mi_X6 tyX6_ok nmX6 0 0 rfl rfl rfl 13 (by decide) mt_602 rfl rfl rfl rfl rfl (Nat.le_of_ble_eq_true rfl) dX6_workOut_7 rfl ?_
  refine g_iconst (v := (0 : Int32)) C dX6_workOut_10 (by decide) ?_
  refine g_istore_n (lv2 := [(2, .int (0 : Int32)), (0, .ref (a 0)), (1, .int p0)]) C dX6_workOut_11 rfl (by decide) rfl ?_
  refine g_sub (lv2 := [(0, .ref (a 0)), (1, .int p0), (2, .int (0 : Int32))]) [1, 2, 0] rfl ?_
  exact h12 N ((V.1, V.2.1, V.2.2.1, V.2.2.2.1, V.2.2.2.2.1, V.2.2.2.2.2.1, V.2.2.2.2.2.2.1, V.2.2.2.2.2.2.2.1, V.2.2.2.2.2.2.2.2.1, V.2.2.2.2.2.2.2.2.2.1, V.2.2.2.2.2.2.2.2.2.2.1, (0 : Int32), V.2.2.2.2.2.2.2.2.2.2.2.2.1, (0 : Int32)), (0 : Int32)) hf
def f_X6_holdsWith (N : Nat) (V : Md) (p0 : Int32) : Option (Int32 × Md) := ((f_X6_workOut N V p0).bind fun o1 => (zb (o1.2.2.2.2.2.2.2.2.1 (Int32.toNatClampNeg (0 : Int32))) (some ((o1.2.2.2.2.2.2.2.2.1 (Int32.toNatClampNeg (0 : Int32))), o1))))
abbrev rm_X6_holdsWith : Room := { frames := 3, cells := 0, slots := 0, locals := 68 }
set_option maxRecDepth 100000 in
theorem k_X6_holdsWith : CF yX6_holdsWith cX6_holdsWith 2 (some .boolean) 1 := ⟨mt_735, mp_36, mt_13, mt_736, ⟨rfl, by decide +kernel, by decide +kernel, by decide +kernel⟩⟩
set_option maxHeartbeats 4000000 in
set_option maxRecDepth 100000 in
theorem c_X6_holdsWith {E : Ev} {a : Nat → Nat} {V : Md} {p0 : Int32} {N : Nat} {o : Int32 × Md} (hf : f_X6_holdsWith N V p0 = some o) : ∀ l, MG l yX6_holdsWith cX6_holdsWith 2 (some .boolean) rm_X6_holdsWith E [.ref (a 0), .int p0] [md E a V] (fun v Y => v = some (.int o.1) ∧ Y = [md E a o.2]) := by
  refine MG.mk (own := RX6) (lv0 := [(0, .ref (a 0)), (1, .int p0)]) (by decide) rfl (Nat.le_of_ble_eq_true rfl) rfl (fun X C K I => ?_)
  unfold f_X6_holdsWith at hf
  refine g_aload_n C dX6_holdsWith_0 rfl 0 rfl ?_
  refine g_iload_n C dX6_holdsWith_1 rfl 1 rfl ?_
  obtain ⟨o1, h2, hf⟩ := bind_s hf
  refine g_callV (As := [.int p0]) (rest := []) C k_X6_workOut (fun l => c_X6_workOut (E := E) (a := a) (V := V) h2 l) mt_655 [0] rfl (by decide) ⟨_, _, _, _, List.mem_flatten.mpr ⟨_, List.mem_of_getElem? (i := 0) rfl, List.mem_of_getElem? (i := 0) rfl⟩, rfl⟩ rfl (Nat.le_of_ble_eq_true rfl) ⟨Nat.le_of_ble_eq_true rfl, Nat.le_of_ble_eq_true rfl, Nat.le_of_ble_eq_true rfl, Nat.le_of_ble_eq_true rfl⟩ dX6_holdsWith_2 ?_
  rintro _ _ ⟨rfl, rfl⟩
  show G E X 2 [md E a o1] 0 0 [(0, .ref (a 0)), (1, .int p0)] [] 5
  refine g_aload_n C dX6_holdsWith_5 rfl 0 rfl ?_
  refine g_get (Cl := RX6) (T := TX6) (N := 14) C mi_X6 0 rfl (List.mem_of_getElem? (i := 0) rfl) rfl 8 (by decide) mt_597 rfl rfl dX6_holdsWith_6 ?_
  refine g_iconst (v := (0 : Int32)) C dX6_holdsWith_9 (by decide) ?_
  refine g_zald C 0 rfl (List.mem_of_getElem? (i := 7) rfl) (by show ¬ (_ ∨ _); decide) dX6_holdsWith_10 ?_
  obtain ⟨z3, hf⟩ := zb_s hf
  obtain rfl := Option.some.inj hf
  exact g_zret C K z3 dX6_holdsWith_11 (Nat.le_of_ble_eq_true rfl) (Nat.le_of_ble_eq_true rfl) ⟨rfl, rfl⟩
def f_X6_holdsNow (N : Nat) (V : Md) : Option (Int32 × Md) := ((f_X6_holdsWith N V (V.1 (Int32.toNatClampNeg (11 : Int32)))).bind fun o1 => (zb o1.1 (some (o1.1, o1.2))))
abbrev rm_X6_holdsNow : Room := { frames := 4, cells := 0, slots := 0, locals := 89 }
set_option maxRecDepth 100000 in
theorem k_X6_holdsNow : CF yX6_holdsNow cX6_holdsNow 1 (some .boolean) 0 := ⟨mt_731, mp_35, mt_13, mt_732, ⟨rfl, by decide +kernel, by decide +kernel, by decide +kernel⟩⟩
set_option maxHeartbeats 4000000 in
set_option maxRecDepth 100000 in
theorem c_X6_holdsNow {E : Ev} {a : Nat → Nat} {V : Md} {N : Nat} {o : Int32 × Md} (hf : f_X6_holdsNow N V = some o) : ∀ l, MG l yX6_holdsNow cX6_holdsNow 1 (some .boolean) rm_X6_holdsNow E [.ref (a 0)] [md E a V] (fun v Y => v = some (.int o.1) ∧ Y = [md E a o.2]) := by
  refine MG.mk (own := RX6) (lv0 := [(0, .ref (a 0))]) (by decide) rfl (Nat.le_of_ble_eq_true rfl) rfl (fun X C K I => ?_)
  unfold f_X6_holdsNow at hf
  refine g_aload_n C dX6_holdsNow_0 rfl 0 rfl ?_
  refine g_aload_n C dX6_holdsNow_1 rfl 0 rfl ?_
  refine g_get (Cl := RX6) (T := TX6) (N := 14) C mi_X6 0 rfl (List.mem_of_getElem? (i := 0) rfl) rfl 0 (by decide) mt_589 rfl rfl dX6_holdsNow_2 ?_
  refine g_bipush (v := (11 : Int32)) C dX6_holdsNow_5 (by decide) ?_
  refine g_iald C 0 rfl (List.mem_of_getElem? (i := 1) rfl) (by show ¬ (_ ∨ _); decide) dX6_holdsNow_7 ?_
  obtain ⟨o1, h2, hf⟩ := bind_s hf
  refine g_callV (As := [.int (V.1 (Int32.toNatClampNeg (11 : Int32)))]) (rest := []) C k_X6_holdsWith (fun l => c_X6_holdsWith (E := E) (a := a) (V := V) h2 l) mt_733 [0] rfl (by decide) ⟨_, _, _, _, List.mem_flatten.mpr ⟨_, List.mem_of_getElem? (i := 0) rfl, List.mem_of_getElem? (i := 0) rfl⟩, rfl⟩ rfl (Nat.le_of_ble_eq_true rfl) ⟨Nat.le_of_ble_eq_true rfl, Nat.le_of_ble_eq_true rfl, Nat.le_of_ble_eq_true rfl, Nat.le_of_ble_eq_true rfl⟩ dX6_holdsNow_8 ?_
  rintro _ _ ⟨rfl, rfl⟩
  show G E X 1 [md E a o1.2] 0 0 [(0, .ref (a 0))] [.int o1.1] 11
  obtain ⟨z3, hf⟩ := zb_s hf
  obtain rfl := Option.some.inj hf
  exact g_zret C K z3 dX6_holdsNow_11 (Nat.le_of_ble_eq_true rfl) (Nat.le_of_ble_eq_true rfl) ⟨rfl, rfl⟩
def b_X6_parts_43 (N : Nat) (V : Md) (K : (Int32 × Int32) → Option (Int32)) (s : Int32 × Int32 × Int32) : Option (Int32) := K ((s.2.1 + s.2.2), (s.1 + (1 : Int32)))
def b_X6_parts_38 (N : Nat) (V : Md) (K : (Int32 × Int32) → Option (Int32)) (s : Int32 × Int32) : Option (Int32) := b_X6_parts_43 N V K (s.1, s.2, (0 : Int32))
def b_X6_parts_4 (N : Nat) (V : Md) (K : (Int32 × Int32) → Option (Int32)) (s : Int32 × Int32) : Option (Int32) := (if (V.1 (Int32.toNatClampNeg (22 : Int32))) ≤ s.2 then some s.1 else (ix ((23 : Int32) + s.2) 173 (if (V.1 (Int32.toNatClampNeg ((23 : Int32) + s.2))) = (40 : Int32) then b_X6_parts_38 N V K (s.2, s.1) else (if (V.1 (Int32.toNatClampNeg ((23 : Int32) + s.2))) = (41 : Int32) then b_X6_parts_38 N V K (s.2, s.1) else b_X6_parts_43 N V K (s.2, s.1, (1 : Int32))))))
def f_X6_parts (N : Nat) (V : Md) : Option (Int32) := lp (b_X6_parts_4 N V) N ((0 : Int32), (0 : Int32))
abbrev rm_X6_parts : Room := { frames := 0, cells := 0, slots := 0, locals := 0 }
set_option maxRecDepth 100000 in
theorem k_X6_parts : CF yX6_parts cX6_parts 4 (some .int) 0 := ⟨mt_679, mp_30, mt_13, mt_680, ⟨rfl, by decide +kernel, by decide +kernel, by decide +kernel⟩⟩
set_option maxHeartbeats 4000000 in
set_option maxRecDepth 100000 in
theorem c_X6_parts {E : Ev} {a : Nat → Nat} {V : Md} {N : Nat} {o : Int32} (hf : f_X6_parts N V = some o) : ∀ l, MG l yX6_parts cX6_parts 4 (some .int) rm_X6_parts E [.ref (a 0)] [md E a V] (fun v Y => v = some (.int o) ∧ Y = [md E a V]) := by
  refine MG.mk (own := RX6) (lv0 := [(0, .ref (a 0))]) (by decide) rfl (Nat.le_of_ble_eq_true rfl) rfl (fun X C K I => ?_)
  have h43 : ∀ (K : (Int32 × Int32) → Option (Int32)), (∀ s : Int32 × Int32, K s = some o → G E X 4 [md E a V] 0 0 [(0, .ref (a 0)), (1, .int s.1), (2, .int s.2)] [] 4) → ∀ s : Int32 × Int32 × Int32, b_X6_parts_43 N V K s = some o → G E X 4 [md E a V] 0 0 [(0, .ref (a 0)), (2, .int s.1)] [.int s.2.2, .int s.2.1] 43 := by
    intro K4 hK4 s hf
    unfold b_X6_parts_43 at hf
    refine g_iadd C dX6_parts_43 ?_
    refine g_istore_n (lv2 := [(1, .int (s.2.1 + s.2.2)), (0, .ref (a 0)), (2, .int s.1)]) C dX6_parts_44 rfl (by decide) rfl ?_
    refine g_iinc (v := (s.1 + (1 : Int32))) (lv2 := [(2, .int (s.1 + (1 : Int32))), (1, .int (s.2.1 + s.2.2)), (0, .ref (a 0))]) C dX6_parts_45 2 rfl (ii (by decide)) (by decide) rfl ?_
    refine g_goto (tgt := 4) C dX6_parts_48 (by decide) ?_
    refine g_sub (lv2 := [(0, .ref (a 0)), (1, .int (s.2.1 + s.2.2)), (2, .int (s.1 + (1 : Int32)))]) [2, 1, 0] rfl ?_
    exact hK4 ((s.2.1 + s.2.2), (s.1 + (1 : Int32))) hf
  have h38 : ∀ (K : (Int32 × Int32) → Option (Int32)), (∀ s : Int32 × Int32, K s = some o → G E X 4 [md E a V] 0 0 [(0, .ref (a 0)), (1, .int s.1), (2, .int s.2)] [] 4) → ∀ s : Int32 × Int32, b_X6_parts_38 N V K s = some o → G E X 4 [md E a V] 0 0 [(0, .ref (a 0)), (2, .int s.1)] [.int s.2] 38 := by
    intro K4 hK4 s hf
    unfold b_X6_parts_38 at hf
    refine g_iconst (v := (0 : Int32)) C dX6_parts_38 (by decide) ?_
    refine g_goto (tgt := 43) C dX6_parts_39 (by decide) ?_
    exact h43 _ hK4 (s.1, s.2, (0 : Int32)) hf
  have h4 : ∀ (n : Nat) (s : Int32 × Int32), lp (b_X6_parts_4 N V) n s = some o → G E X 4 [md E a V] 0 0 [(0, .ref (a 0)), (1, .int s.1), (2, .int s.2)] [] 4 := lp_ind (by
    intro K4 hK4 s hf
    unfold b_X6_parts_4 at hf
    refine g_iload_n C dX6_parts_4 rfl 2 rfl ?_
    refine g_aload_n C dX6_parts_5 rfl 0 rfl ?_
    refine g_get (Cl := RX6) (T := TX6) (N := 14) C mi_X6 0 rfl (List.mem_of_getElem? (i := 0) rfl) rfl 0 (by decide) mt_589 rfl rfl dX6_parts_6 ?_
    refine g_bipush (v := (22 : Int32)) C dX6_parts_9 (by decide) ?_
    refine g_iald C 0 rfl (List.mem_of_getElem? (i := 1) rfl) (by show ¬ (_ ∨ _); decide) dX6_parts_11 ?_
    refine g_icmp_ge (tgt := 51) C dX6_parts_12 (by decide) (fun c1 => ?_) (fun c1 => ?_)
    · have hf := (f_if hf).1 c1
      refine g_iload_n C dX6_parts_51 rfl 1 rfl ?_
      obtain rfl := Option.some.inj hf
      exact g_iret C K dX6_parts_52 (Nat.le_of_ble_eq_true rfl) (Nat.le_of_ble_eq_true rfl) ⟨rfl, rfl⟩
    · have hf := (f_if hf).2 c1
      refine g_aload_n C dX6_parts_15 rfl 0 rfl ?_
      refine g_get (Cl := RX6) (T := TX6) (N := 14) C mi_X6 0 rfl (List.mem_of_getElem? (i := 0) rfl) rfl 0 (by decide) mt_589 rfl rfl dX6_parts_16 ?_
      refine g_bipush (v := (23 : Int32)) C dX6_parts_19 (by decide) ?_
      refine g_iload_n C dX6_parts_21 rfl 2 rfl ?_
      refine g_iadd C dX6_parts_22 ?_
      obtain ⟨i2, hf⟩ := ix_s hf
      refine g_iald C 0 rfl (List.mem_of_getElem? (i := 1) rfl) i2 dX6_parts_23 ?_
      refine g_istore_n (lv2 := [(3, .int (V.1 (Int32.toNatClampNeg ((23 : Int32) + s.2)))), (0, .ref (a 0)), (1, .int s.1), (2, .int s.2)]) C dX6_parts_24 rfl (by decide) rfl ?_
      refine g_iload_n C dX6_parts_25 rfl 2 rfl ?_
      refine g_iload_n C dX6_parts_26 rfl 0 rfl ?_
      refine g_bipush (v := (40 : Int32)) C dX6_parts_27 (by decide) ?_
      refine g_icmp_eq (tgt := 38) C dX6_parts_29 (by decide) (fun c3 => ?_) (fun c3 => ?_)
      · have hf := (f_if hf).1 c3
        refine g_sub (lv2 := [(0, .ref (a 0)), (2, .int s.2)]) [1, 3] rfl ?_
        exact h38 _ hK4 (s.2, s.1) hf
      · have hf := (f_if hf).2 c3
        refine g_iload_n C dX6_parts_32 rfl 0 rfl ?_
        refine g_bipush (v := (41 : Int32)) C dX6_parts_33 (by decide) ?_
        refine g_icmp_ne (tgt := 42) C dX6_parts_35 (by decide) (fun c4 => ?_) (fun c4 => ?_)
        · have hf := (f_if hf).2 c4
          refine g_iconst (v := (1 : Int32)) C dX6_parts_42 (by decide) ?_
          refine g_sub (lv2 := [(0, .ref (a 0)), (2, .int s.2)]) [1, 3] rfl ?_
          exact h43 _ hK4 (s.2, s.1, (1 : Int32)) hf
        · have hf := (f_if hf).1 c4
          refine g_sub (lv2 := [(0, .ref (a 0)), (2, .int s.2)]) [1, 3] rfl ?_
          exact h38 _ hK4 (s.2, s.1) hf)
  unfold f_X6_parts at hf
  refine g_iconst (v := (0 : Int32)) C dX6_parts_0 (by decide) ?_
  refine g_istore_n (lv2 := [(1, .int (0 : Int32)), (0, .ref (a 0))]) C dX6_parts_1 rfl (by decide) rfl ?_
  refine g_iconst (v := (0 : Int32)) C dX6_parts_2 (by decide) ?_
  refine g_istore_n (lv2 := [(2, .int (0 : Int32)), (1, .int (0 : Int32)), (0, .ref (a 0))]) C dX6_parts_3 rfl (by decide) rfl ?_
  refine g_sub (lv2 := [(0, .ref (a 0)), (1, .int (0 : Int32)), (2, .int (0 : Int32))]) [2, 1, 0] rfl ?_
  exact h4 N ((0 : Int32), (0 : Int32)) hf
def b_X6_letters_59 (N : Nat) (V : Md) (K : (Int32 × Int32) → Option (Int32)) (s : Int32 × Int32 × Int32) : Option (Int32) := K ((s.2.1 ||| s.2.2), (s.1 + (1 : Int32)))
def b_X6_letters_4 (N : Nat) (V : Md) (K : (Int32 × Int32) → Option (Int32)) (s : Int32 × Int32) : Option (Int32) := (if (V.1 (Int32.toNatClampNeg (22 : Int32))) ≤ s.2 then some s.1 else (ix ((23 : Int32) + s.2) 173 ((f_X6_isLetter (V.1 (Int32.toNatClampNeg ((23 : Int32) + s.2)))).bind fun o3 => (if o3 = 0 then b_X6_letters_59 N V K (s.2, s.1, (0 : Int32)) else (if (V.1 (Int32.toNatClampNeg ((23 : Int32) + s.2))) < (97 : Int32) then b_X6_letters_59 N V K (s.2, s.1, ((16 : Int32) <<< (((V.1 (Int32.toNatClampNeg ((23 : Int32) + s.2))) - (65 : Int32)) &&& 31))) else b_X6_letters_59 N V K (s.2, s.1, ((1 : Int32) <<< (((V.1 (Int32.toNatClampNeg ((23 : Int32) + s.2))) - (97 : Int32)) &&& 31))))))))
def f_X6_letters (N : Nat) (V : Md) : Option (Int32) := lp (b_X6_letters_4 N V) N ((0 : Int32), (0 : Int32))
abbrev rm_X6_letters : Room := { frames := 1, cells := 0, slots := 0, locals := 20 }
set_option maxRecDepth 100000 in
theorem k_X6_letters : CF yX6_letters cX6_letters 4 (some .int) 0 := ⟨mt_683, mp_31, mt_13, mt_684, ⟨rfl, by decide +kernel, by decide +kernel, by decide +kernel⟩⟩
set_option maxHeartbeats 4000000 in
set_option maxRecDepth 100000 in
theorem c_X6_letters {E : Ev} {a : Nat → Nat} {V : Md} {N : Nat} {o : Int32} (hf : f_X6_letters N V = some o) : ∀ l, MG l yX6_letters cX6_letters 4 (some .int) rm_X6_letters E [.ref (a 0)] [md E a V] (fun v Y => v = some (.int o) ∧ Y = [md E a V]) := by
  refine MG.mk (own := RX6) (lv0 := [(0, .ref (a 0))]) (by decide) rfl (Nat.le_of_ble_eq_true rfl) rfl (fun X C K I => ?_)
  have h59 : ∀ (K : (Int32 × Int32) → Option (Int32)), (∀ s : Int32 × Int32, K s = some o → G E X 4 [md E a V] 0 0 [(0, .ref (a 0)), (1, .int s.1), (2, .int s.2)] [] 4) → ∀ s : Int32 × Int32 × Int32, b_X6_letters_59 N V K s = some o → G E X 4 [md E a V] 0 0 [(0, .ref (a 0)), (2, .int s.1)] [.int s.2.2, .int s.2.1] 59 := by
    intro K4 hK4 s hf
    unfold b_X6_letters_59 at hf
    refine g_ior C dX6_letters_59 ?_
    refine g_istore_n (lv2 := [(1, .int (s.2.1 ||| s.2.2)), (0, .ref (a 0)), (2, .int s.1)]) C dX6_letters_60 rfl (by decide) rfl ?_
    refine g_iinc (v := (s.1 + (1 : Int32))) (lv2 := [(2, .int (s.1 + (1 : Int32))), (1, .int (s.2.1 ||| s.2.2)), (0, .ref (a 0))]) C dX6_letters_61 2 rfl (ii (by decide)) (by decide) rfl ?_
    refine g_goto (tgt := 4) C dX6_letters_64 (by decide) ?_
    refine g_sub (lv2 := [(0, .ref (a 0)), (1, .int (s.2.1 ||| s.2.2)), (2, .int (s.1 + (1 : Int32)))]) [2, 1, 0] rfl ?_
    exact hK4 ((s.2.1 ||| s.2.2), (s.1 + (1 : Int32))) hf
  have h4 : ∀ (n : Nat) (s : Int32 × Int32), lp (b_X6_letters_4 N V) n s = some o → G E X 4 [md E a V] 0 0 [(0, .ref (a 0)), (1, .int s.1), (2, .int s.2)] [] 4 := lp_ind (by
    intro K4 hK4 s hf
    unfold b_X6_letters_4 at hf
    refine g_iload_n C dX6_letters_4 rfl 2 rfl ?_
    refine g_aload_n C dX6_letters_5 rfl 0 rfl ?_
    refine g_get (Cl := RX6) (T := TX6) (N := 14) C mi_X6 0 rfl (List.mem_of_getElem? (i := 0) rfl) rfl 0 (by decide) mt_589 rfl rfl dX6_letters_6 ?_
    refine g_bipush (v := (22 : Int32)) C dX6_letters_9 (by decide) ?_
    refine g_iald C 0 rfl (List.mem_of_getElem? (i := 1) rfl) (by show ¬ (_ ∨ _); decide) dX6_letters_11 ?_
    refine g_icmp_ge (tgt := 67) C dX6_letters_12 (by decide) (fun c1 => ?_) (fun c1 => ?_)
    · have hf := (f_if hf).1 c1
      refine g_iload_n C dX6_letters_67 rfl 1 rfl ?_
      obtain rfl := Option.some.inj hf
      exact g_iret C K dX6_letters_68 (Nat.le_of_ble_eq_true rfl) (Nat.le_of_ble_eq_true rfl) ⟨rfl, rfl⟩
    · have hf := (f_if hf).2 c1
      refine g_aload_n C dX6_letters_15 rfl 0 rfl ?_
      refine g_get (Cl := RX6) (T := TX6) (N := 14) C mi_X6 0 rfl (List.mem_of_getElem? (i := 0) rfl) rfl 0 (by decide) mt_589 rfl rfl dX6_letters_16 ?_
      refine g_bipush (v := (23 : Int32)) C dX6_letters_19 (by decide) ?_
      refine g_iload_n C dX6_letters_21 rfl 2 rfl ?_
      refine g_iadd C dX6_letters_22 ?_
      obtain ⟨i2, hf⟩ := ix_s hf
      refine g_iald C 0 rfl (List.mem_of_getElem? (i := 1) rfl) i2 dX6_letters_23 ?_
      refine g_istore_n (lv2 := [(3, .int (V.1 (Int32.toNatClampNeg ((23 : Int32) + s.2)))), (0, .ref (a 0)), (1, .int s.1), (2, .int s.2)]) C dX6_letters_24 rfl (by decide) rfl ?_
      refine g_iload_n C dX6_letters_25 rfl 2 rfl ?_
      refine g_iload_n C dX6_letters_26 rfl 0 rfl ?_
      obtain ⟨o3, h4, hf⟩ := bind_s hf
      refine g_callS (As := [.int (V.1 (Int32.toNatClampNeg ((23 : Int32) + s.2)))]) (rest := [.int s.1]) C k_X6_isLetter (fun l => c_X6_isLetter (E := E) h4 l) mt_685 [] rfl (by decide) rfl (Nat.le_of_ble_eq_true rfl) ⟨Nat.le_of_ble_eq_true rfl, Nat.le_of_ble_eq_true rfl, Nat.le_of_ble_eq_true rfl, Nat.le_of_ble_eq_true rfl⟩ dX6_letters_27 ?_
      rintro _ _ ⟨rfl, rfl⟩
      show G E X 4 [md E a V] 0 0 [(3, .int (V.1 (Int32.toNatClampNeg ((23 : Int32) + s.2)))), (0, .ref (a 0)), (1, .int s.1), (2, .int s.2)] [.int o3, .int s.1] 30
      refine g_if_ne (tgt := 37) C dX6_letters_30 (by decide) (fun c5 => ?_) (fun c5 => ?_)
      · have hf := (f_if hf).2 c5
        refine g_iload_n C dX6_letters_37 rfl 0 rfl ?_
        refine g_bipush (v := (97 : Int32)) C dX6_letters_38 (by decide) ?_
        refine g_icmp_lt (tgt := 52) C dX6_letters_40 (by decide) (fun c6 => ?_) (fun c6 => ?_)
        · have hf := (f_if hf).1 c6
          refine g_bipush (v := (16 : Int32)) C dX6_letters_52 (by decide) ?_
          refine g_iload_n C dX6_letters_54 rfl 0 rfl ?_
          refine g_bipush (v := (65 : Int32)) C dX6_letters_55 (by decide) ?_
          refine g_isub C dX6_letters_57 ?_
          refine g_ishl C dX6_letters_58 ?_
          refine g_sub (lv2 := [(0, .ref (a 0)), (2, .int s.2)]) [1, 3] rfl ?_
          exact h59 _ hK4 (s.2, s.1, ((16 : Int32) <<< (((V.1 (Int32.toNatClampNeg ((23 : Int32) + s.2))) - (65 : Int32)) &&& 31))) hf
        · have hf := (f_if hf).2 c6
          refine g_iconst (v := (1 : Int32)) C dX6_letters_43 (by decide) ?_
          refine g_iload_n C dX6_letters_44 rfl 0 rfl ?_
          refine g_bipush (v := (97 : Int32)) C dX6_letters_45 (by decide) ?_
          refine g_isub C dX6_letters_47 ?_
          refine g_ishl C dX6_letters_48 ?_
          refine g_goto (tgt := 59) C dX6_letters_49 (by decide) ?_
          refine g_sub (lv2 := [(0, .ref (a 0)), (2, .int s.2)]) [1, 3] rfl ?_
          exact h59 _ hK4 (s.2, s.1, ((1 : Int32) <<< (((V.1 (Int32.toNatClampNeg ((23 : Int32) + s.2))) - (97 : Int32)) &&& 31))) hf
      · have hf := (f_if hf).1 c5
        refine g_iconst (v := (0 : Int32)) C dX6_letters_33 (by decide) ?_
        refine g_goto (tgt := 59) C dX6_letters_34 (by decide) ?_
        refine g_sub (lv2 := [(0, .ref (a 0)), (2, .int s.2)]) [1, 3] rfl ?_
        exact h59 _ hK4 (s.2, s.1, (0 : Int32)) hf)
  unfold f_X6_letters at hf
  refine g_iconst (v := (0 : Int32)) C dX6_letters_0 (by decide) ?_
  refine g_istore_n (lv2 := [(1, .int (0 : Int32)), (0, .ref (a 0))]) C dX6_letters_1 rfl (by decide) rfl ?_
  refine g_iconst (v := (0 : Int32)) C dX6_letters_2 (by decide) ?_
  refine g_istore_n (lv2 := [(2, .int (0 : Int32)), (1, .int (0 : Int32)), (0, .ref (a 0))]) C dX6_letters_3 rfl (by decide) rfl ?_
  refine g_sub (lv2 := [(0, .ref (a 0)), (1, .int (0 : Int32)), (2, .int (0 : Int32))]) [2, 1, 0] rfl ?_
  exact h4 N ((0 : Int32), (0 : Int32)) hf
def b_X6_rule_74 (N : Nat) (V : Md) (p0 : Int32) (s : Md × Int32) : Option (Int32 × Md) := some (s.2, s.1)
def f_X6_rule (N : Nat) (V : Md) (p0 : Int32) : Option (Int32 × Md) := ((f_X6_workOut N V (V.1 (Int32.toNatClampNeg (11 : Int32)))).bind fun o1 => (if p0 = (0 : Int32) then ((f_X6_parts N o1).bind fun o4 => some (o4, o1)) else (if p0 = (1 : Int32) then some ((o1.2.2.2.2.2.2.2.2.2.1 (Int32.toNatClampNeg (0 : Int32))), o1) else (if p0 = (2 : Int32) then (if (o1.2.2.2.2.2.2.2.2.1 (Int32.toNatClampNeg (0 : Int32))) = 0 then b_X6_rule_74 N V p0 (o1, (0 : Int32)) else b_X6_rule_74 N V p0 (o1, (1 : Int32))) else (if p0 = (3 : Int32) then ((f_X6_letters N o1).bind fun o10 => some (o10, o1)) else (if p0 = (4 : Int32) then some ((o1.2.2.2.2.2.2.2.2.2.2.1 (Int32.toNatClampNeg (0 : Int32))), o1) else some ((-2 : Int32), o1)))))))
abbrev rm_X6_rule : Room := { frames := 3, cells := 0, slots := 0, locals := 68 }
set_option maxRecDepth 100000 in
theorem k_X6_rule : CF yX6_rule cX6_rule 2 (some .int) 1 := ⟨mt_652, mt_653, mt_13, mt_654, ⟨rfl, by decide +kernel, by decide +kernel, by decide +kernel⟩⟩
set_option maxHeartbeats 4000000 in
set_option maxRecDepth 100000 in
theorem c_X6_rule {E : Ev} {a : Nat → Nat} {V : Md} {p0 : Int32} {N : Nat} {o : Int32 × Md} (hf : f_X6_rule N V p0 = some o) : ∀ l, MG l yX6_rule cX6_rule 2 (some .int) rm_X6_rule E [.ref (a 0), .int p0] [md E a V] (fun v Y => v = some (.int o.1) ∧ Y = [md E a o.2]) := by
  refine MG.mk (own := RX6) (lv0 := [(0, .ref (a 0)), (1, .int p0)]) (by decide) rfl (Nat.le_of_ble_eq_true rfl) rfl (fun X C K I => ?_)
  have h74 : ∀ s : Md × Int32, b_X6_rule_74 N V p0 s = some o → G E X 2 [md E a s.1] 0 0 [] [.int s.2] 74 := by
    intro s hf
    unfold b_X6_rule_74 at hf
    obtain rfl := Option.some.inj hf
    exact g_iret C K dX6_rule_74 (Nat.le_of_ble_eq_true rfl) (Nat.le_of_ble_eq_true rfl) ⟨rfl, rfl⟩
  unfold f_X6_rule at hf
  refine g_aload_n C dX6_rule_0 rfl 0 rfl ?_
  refine g_aload_n C dX6_rule_1 rfl 0 rfl ?_
  refine g_get (Cl := RX6) (T := TX6) (N := 14) C mi_X6 0 rfl (List.mem_of_getElem? (i := 0) rfl) rfl 0 (by decide) mt_589 rfl rfl dX6_rule_2 ?_
  refine g_bipush (v := (11 : Int32)) C dX6_rule_5 (by decide) ?_
  refine g_iald C 0 rfl (List.mem_of_getElem? (i := 1) rfl) (by show ¬ (_ ∨ _); decide) dX6_rule_7 ?_
  obtain ⟨o1, h2, hf⟩ := bind_s hf
  refine g_callV (As := [.int (V.1 (Int32.toNatClampNeg (11 : Int32)))]) (rest := []) C k_X6_workOut (fun l => c_X6_workOut (E := E) (a := a) (V := V) h2 l) mt_655 [0] rfl (by decide) ⟨_, _, _, _, List.mem_flatten.mpr ⟨_, List.mem_of_getElem? (i := 0) rfl, List.mem_of_getElem? (i := 0) rfl⟩, rfl⟩ rfl (Nat.le_of_ble_eq_true rfl) ⟨Nat.le_of_ble_eq_true rfl, Nat.le_of_ble_eq_true rfl, Nat.le_of_ble_eq_true rfl, Nat.le_of_ble_eq_true rfl⟩ dX6_rule_8 ?_
  rintro _ _ ⟨rfl, rfl⟩
  show G E X 2 [md E a o1] 0 0 [(0, .ref (a 0)), (1, .int p0)] [] 11
  refine g_iload_n C dX6_rule_11 rfl 1 rfl ?_
  by_cases c3 : p0 = (0 : Int32)
  · have hf := (f_if hf).1 c3
    refine g_tin (tgt := 48) C dX6_rule_12 (by rw [c3] <;> decide) (by rw [c3] <;> decide) (by rw [c3] <;> rfl) (by decide) ?_
    refine g_aload_n C dX6_rule_48 rfl 0 rfl ?_
    obtain ⟨o4, h5, hf⟩ := bind_s hf
    refine g_callV (As := []) (rest := []) C k_X6_parts (fun l => c_X6_parts (E := E) (a := a) (V := o1) h5 l) mt_677 [0] rfl (by decide) ⟨_, _, _, _, List.mem_flatten.mpr ⟨_, List.mem_of_getElem? (i := 0) rfl, List.mem_of_getElem? (i := 0) rfl⟩, rfl⟩ rfl (Nat.le_of_ble_eq_true rfl) ⟨Nat.le_of_ble_eq_true rfl, Nat.le_of_ble_eq_true rfl, Nat.le_of_ble_eq_true rfl, Nat.le_of_ble_eq_true rfl⟩ dX6_rule_49 ?_
    rintro _ _ ⟨rfl, rfl⟩
    show G E X 2 [md E a o1] 0 0 [(0, .ref (a 0)), (1, .int p0)] [.int o4] 52
    obtain rfl := Option.some.inj hf
    exact g_iret C K dX6_rule_52 (Nat.le_of_ble_eq_true rfl) (Nat.le_of_ble_eq_true rfl) ⟨rfl, rfl⟩
  have hf := (f_if hf).2 c3
  by_cases c6 : p0 = (1 : Int32)
  · have hf := (f_if hf).1 c6
    refine g_tin (tgt := 53) C dX6_rule_12 (by rw [c6] <;> decide) (by rw [c6] <;> decide) (by rw [c6] <;> rfl) (by decide) ?_
    refine g_aload_n C dX6_rule_53 rfl 0 rfl ?_
    refine g_get (Cl := RX6) (T := TX6) (N := 14) C mi_X6 0 rfl (List.mem_of_getElem? (i := 0) rfl) rfl 9 (by decide) mt_598 rfl rfl dX6_rule_54 ?_
    refine g_iconst (v := (0 : Int32)) C dX6_rule_57 (by decide) ?_
    refine g_iald C 0 rfl (List.mem_of_getElem? (i := 8) rfl) (by show ¬ (_ ∨ _); decide) dX6_rule_58 ?_
    obtain rfl := Option.some.inj hf
    exact g_iret C K dX6_rule_59 (Nat.le_of_ble_eq_true rfl) (Nat.le_of_ble_eq_true rfl) ⟨rfl, rfl⟩
  have hf := (f_if hf).2 c6
  by_cases c7 : p0 = (2 : Int32)
  · have hf := (f_if hf).1 c7
    refine g_tin (tgt := 60) C dX6_rule_12 (by rw [c7] <;> decide) (by rw [c7] <;> decide) (by rw [c7] <;> rfl) (by decide) ?_
    refine g_aload_n C dX6_rule_60 rfl 0 rfl ?_
    refine g_get (Cl := RX6) (T := TX6) (N := 14) C mi_X6 0 rfl (List.mem_of_getElem? (i := 0) rfl) rfl 8 (by decide) mt_597 rfl rfl dX6_rule_61 ?_
    refine g_iconst (v := (0 : Int32)) C dX6_rule_64 (by decide) ?_
    refine g_zald C 0 rfl (List.mem_of_getElem? (i := 7) rfl) (by show ¬ (_ ∨ _); decide) dX6_rule_65 ?_
    refine g_if_eq (tgt := 73) C dX6_rule_66 (by decide) (fun c8 => ?_) (fun c8 => ?_)
    · have hf := (f_if hf).1 c8
      refine g_iconst (v := (0 : Int32)) C dX6_rule_73 (by decide) ?_
      refine g_sub (lv2 := []) [] rfl ?_
      exact h74 (o1, (0 : Int32)) hf
    · have hf := (f_if hf).2 c8
      refine g_iconst (v := (1 : Int32)) C dX6_rule_69 (by decide) ?_
      refine g_goto (tgt := 74) C dX6_rule_70 (by decide) ?_
      refine g_sub (lv2 := []) [] rfl ?_
      exact h74 (o1, (1 : Int32)) hf
  have hf := (f_if hf).2 c7
  by_cases c9 : p0 = (3 : Int32)
  · have hf := (f_if hf).1 c9
    refine g_tin (tgt := 75) C dX6_rule_12 (by rw [c9] <;> decide) (by rw [c9] <;> decide) (by rw [c9] <;> rfl) (by decide) ?_
    refine g_aload_n C dX6_rule_75 rfl 0 rfl ?_
    obtain ⟨o10, h11, hf⟩ := bind_s hf
    refine g_callV (As := []) (rest := []) C k_X6_letters (fun l => c_X6_letters (E := E) (a := a) (V := o1) h11 l) mt_681 [0] rfl (by decide) ⟨_, _, _, _, List.mem_flatten.mpr ⟨_, List.mem_of_getElem? (i := 0) rfl, List.mem_of_getElem? (i := 0) rfl⟩, rfl⟩ rfl (Nat.le_of_ble_eq_true rfl) ⟨Nat.le_of_ble_eq_true rfl, Nat.le_of_ble_eq_true rfl, Nat.le_of_ble_eq_true rfl, Nat.le_of_ble_eq_true rfl⟩ dX6_rule_76 ?_
    rintro _ _ ⟨rfl, rfl⟩
    show G E X 2 [md E a o1] 0 0 [(0, .ref (a 0)), (1, .int p0)] [.int o10] 79
    obtain rfl := Option.some.inj hf
    exact g_iret C K dX6_rule_79 (Nat.le_of_ble_eq_true rfl) (Nat.le_of_ble_eq_true rfl) ⟨rfl, rfl⟩
  have hf := (f_if hf).2 c9
  by_cases c12 : p0 = (4 : Int32)
  · have hf := (f_if hf).1 c12
    refine g_tin (tgt := 80) C dX6_rule_12 (by rw [c12] <;> decide) (by rw [c12] <;> decide) (by rw [c12] <;> rfl) (by decide) ?_
    refine g_aload_n C dX6_rule_80 rfl 0 rfl ?_
    refine g_get (Cl := RX6) (T := TX6) (N := 14) C mi_X6 0 rfl (List.mem_of_getElem? (i := 0) rfl) rfl 10 (by decide) mt_599 rfl rfl dX6_rule_81 ?_
    refine g_iconst (v := (0 : Int32)) C dX6_rule_84 (by decide) ?_
    refine g_iald C 0 rfl (List.mem_of_getElem? (i := 9) rfl) (by show ¬ (_ ∨ _); decide) dX6_rule_85 ?_
    obtain rfl := Option.some.inj hf
    exact g_iret C K dX6_rule_86 (Nat.le_of_ble_eq_true rfl) (Nat.le_of_ble_eq_true rfl) ⟨rfl, rfl⟩
  have hf := (f_if hf).2 c12
  refine g_tout (tgt := 87) C dX6_rule_12 (by have ec3 := ne_ti (a := 0) c3 rfl; have ec6 := ne_ti (a := 1) c6 rfl; have ec7 := ne_ti (a := 2) c7 rfl; have ec9 := ne_ti (a := 3) c9 rfl; have ec12 := ne_ti (a := 4) c12 rfl; omega) (by decide) ?_
  refine g_bipush (v := (-2 : Int32)) C dX6_rule_87 (by decide) ?_
  obtain rfl := Option.some.inj hf
  exact g_iret C K dX6_rule_89 (Nat.le_of_ble_eq_true rfl) (Nat.le_of_ble_eq_true rfl) ⟨rfl, rfl⟩
def f_X6_weight (V : Md) (p0 : Int32) : Option (Int32) := (ix ((83 : Int32) + ((3 : Int32) * p0)) 173 (some (V.1 (Int32.toNatClampNeg ((83 : Int32) + ((3 : Int32) * p0))))))
abbrev rm_X6_weight : Room := { frames := 0, cells := 0, slots := 0, locals := 0 }
set_option maxRecDepth 100000 in
theorem k_X6_weight : CF yX6_weight cX6_weight 2 (some .int) 1 := ⟨mt_723, mp_34, mt_13, mt_724, ⟨rfl, by decide +kernel, by decide +kernel, by decide +kernel⟩⟩
set_option maxHeartbeats 4000000 in
set_option maxRecDepth 100000 in
theorem c_X6_weight {E : Ev} {a : Nat → Nat} {V : Md} {p0 : Int32} {o : Int32} (hf : f_X6_weight V p0 = some o) : ∀ l, MG l yX6_weight cX6_weight 2 (some .int) rm_X6_weight E [.ref (a 0), .int p0] [md E a V] (fun v Y => v = some (.int o) ∧ Y = [md E a V]) := by
  refine MG.mk (own := RX6) (lv0 := [(0, .ref (a 0)), (1, .int p0)]) (by decide) rfl (Nat.le_of_ble_eq_true rfl) rfl (fun X C K I => ?_)
  unfold f_X6_weight at hf
  refine g_aload_n C dX6_weight_0 rfl 0 rfl ?_
  refine g_get (Cl := RX6) (T := TX6) (N := 14) C mi_X6 0 rfl (List.mem_of_getElem? (i := 0) rfl) rfl 0 (by decide) mt_589 rfl rfl dX6_weight_1 ?_
  refine g_bipush (v := (83 : Int32)) C dX6_weight_4 (by decide) ?_
  refine g_iconst (v := (3 : Int32)) C dX6_weight_6 (by decide) ?_
  refine g_iload_n C dX6_weight_7 rfl 1 rfl ?_
  refine g_imul C dX6_weight_8 ?_
  refine g_iadd C dX6_weight_9 ?_
  obtain ⟨i1, hf⟩ := ix_s hf
  refine g_iald C 0 rfl (List.mem_of_getElem? (i := 1) rfl) i1 dX6_weight_10 ?_
  obtain rfl := Option.some.inj hf
  exact g_iret C K dX6_weight_11 (Nat.le_of_ble_eq_true rfl) (Nat.le_of_ble_eq_true rfl) ⟨rfl, rfl⟩
def f_X6_placeOf (V : Md) (p0 : Int32) : Option (Int32) := (ix (((83 : Int32) + ((3 : Int32) * p0)) + (1 : Int32)) 173 (some (V.1 (Int32.toNatClampNeg (((83 : Int32) + ((3 : Int32) * p0)) + (1 : Int32))))))
abbrev rm_X6_placeOf : Room := { frames := 0, cells := 0, slots := 0, locals := 0 }
set_option maxRecDepth 100000 in
theorem k_X6_placeOf : CF yX6_placeOf cX6_placeOf 2 (some .int) 1 := ⟨mt_764, mp_42, mt_13, mt_765, ⟨rfl, by decide +kernel, by decide +kernel, by decide +kernel⟩⟩
set_option maxHeartbeats 4000000 in
set_option maxRecDepth 100000 in
theorem c_X6_placeOf {E : Ev} {a : Nat → Nat} {V : Md} {p0 : Int32} {o : Int32} (hf : f_X6_placeOf V p0 = some o) : ∀ l, MG l yX6_placeOf cX6_placeOf 2 (some .int) rm_X6_placeOf E [.ref (a 0), .int p0] [md E a V] (fun v Y => v = some (.int o) ∧ Y = [md E a V]) := by
  refine MG.mk (own := RX6) (lv0 := [(0, .ref (a 0)), (1, .int p0)]) (by decide) rfl (Nat.le_of_ble_eq_true rfl) rfl (fun X C K I => ?_)
  unfold f_X6_placeOf at hf
  refine g_aload_n C dX6_placeOf_0 rfl 0 rfl ?_
  refine g_get (Cl := RX6) (T := TX6) (N := 14) C mi_X6 0 rfl (List.mem_of_getElem? (i := 0) rfl) rfl 0 (by decide) mt_589 rfl rfl dX6_placeOf_1 ?_
  refine g_bipush (v := (83 : Int32)) C dX6_placeOf_4 (by decide) ?_
  refine g_iconst (v := (3 : Int32)) C dX6_placeOf_6 (by decide) ?_
  refine g_iload_n C dX6_placeOf_7 rfl 1 rfl ?_
  refine g_imul C dX6_placeOf_8 ?_
  refine g_iadd C dX6_placeOf_9 ?_
  refine g_iconst (v := (1 : Int32)) C dX6_placeOf_10 (by decide) ?_
  refine g_iadd C dX6_placeOf_11 ?_
  obtain ⟨i1, hf⟩ := ix_s hf
  refine g_iald C 0 rfl (List.mem_of_getElem? (i := 1) rfl) i1 dX6_placeOf_12 ?_
  obtain rfl := Option.some.inj hf
  exact g_iret C K dX6_placeOf_13 (Nat.le_of_ble_eq_true rfl) (Nat.le_of_ble_eq_true rfl) ⟨rfl, rfl⟩
def b_X6_loadNow_4 (N : Nat) (V : Md) (K : (Int32 × Int32) → Option (Int32)) (s : Int32 × Int32) : Option (Int32) := (if (V.1 (Int32.toNatClampNeg (10 : Int32))) ≤ s.2 then some s.1 else ((f_X6_weight V s.2).bind fun o2 => K ((s.1 + o2), (s.2 + (1 : Int32)))))
def f_X6_loadNow (N : Nat) (V : Md) : Option (Int32) := lp (b_X6_loadNow_4 N V) N ((0 : Int32), (0 : Int32))
abbrev rm_X6_loadNow : Room := { frames := 1, cells := 0, slots := 0, locals := 21 }
set_option maxRecDepth 100000 in
theorem k_X6_loadNow : CF yX6_loadNow cX6_loadNow 3 (some .int) 0 := ⟨mt_719, mp_33, mt_13, mt_720, ⟨rfl, by decide +kernel, by decide +kernel, by decide +kernel⟩⟩
set_option maxHeartbeats 4000000 in
set_option maxRecDepth 100000 in
theorem c_X6_loadNow {E : Ev} {a : Nat → Nat} {V : Md} {N : Nat} {o : Int32} (hf : f_X6_loadNow N V = some o) : ∀ l, MG l yX6_loadNow cX6_loadNow 3 (some .int) rm_X6_loadNow E [.ref (a 0)] [md E a V] (fun v Y => v = some (.int o) ∧ Y = [md E a V]) := by
  refine MG.mk (own := RX6) (lv0 := [(0, .ref (a 0))]) (by decide) rfl (Nat.le_of_ble_eq_true rfl) rfl (fun X C K I => ?_)
  have h4 : ∀ (n : Nat) (s : Int32 × Int32), lp (b_X6_loadNow_4 N V) n s = some o → G E X 3 [md E a V] 0 0 [(0, .ref (a 0)), (1, .int s.1), (2, .int s.2)] [] 4 := lp_ind (by
    intro K4 hK4 s hf
    unfold b_X6_loadNow_4 at hf
    refine g_iload_n C dX6_loadNow_4 rfl 2 rfl ?_
    refine g_aload_n C dX6_loadNow_5 rfl 0 rfl ?_
    refine g_get (Cl := RX6) (T := TX6) (N := 14) C mi_X6 0 rfl (List.mem_of_getElem? (i := 0) rfl) rfl 0 (by decide) mt_589 rfl rfl dX6_loadNow_6 ?_
    refine g_bipush (v := (10 : Int32)) C dX6_loadNow_9 (by decide) ?_
    refine g_iald C 0 rfl (List.mem_of_getElem? (i := 1) rfl) (by show ¬ (_ ∨ _); decide) dX6_loadNow_11 ?_
    refine g_icmp_ge (tgt := 29) C dX6_loadNow_12 (by decide) (fun c1 => ?_) (fun c1 => ?_)
    · have hf := (f_if hf).1 c1
      refine g_iload_n C dX6_loadNow_29 rfl 1 rfl ?_
      obtain rfl := Option.some.inj hf
      exact g_iret C K dX6_loadNow_30 (Nat.le_of_ble_eq_true rfl) (Nat.le_of_ble_eq_true rfl) ⟨rfl, rfl⟩
    · have hf := (f_if hf).2 c1
      refine g_iload_n C dX6_loadNow_15 rfl 1 rfl ?_
      refine g_aload_n C dX6_loadNow_16 rfl 0 rfl ?_
      refine g_iload_n C dX6_loadNow_17 rfl 2 rfl ?_
      obtain ⟨o2, h3, hf⟩ := bind_s hf
      refine g_callV (As := [.int s.2]) (rest := [.int s.1]) C k_X6_weight (fun l => c_X6_weight (E := E) (a := a) (V := V) h3 l) mt_721 [0] rfl (by decide) ⟨_, _, _, _, List.mem_flatten.mpr ⟨_, List.mem_of_getElem? (i := 0) rfl, List.mem_of_getElem? (i := 0) rfl⟩, rfl⟩ rfl (Nat.le_of_ble_eq_true rfl) ⟨Nat.le_of_ble_eq_true rfl, Nat.le_of_ble_eq_true rfl, Nat.le_of_ble_eq_true rfl, Nat.le_of_ble_eq_true rfl⟩ dX6_loadNow_18 ?_
      rintro _ _ ⟨rfl, rfl⟩
      show G E X 3 [md E a V] 0 0 [(0, .ref (a 0)), (1, .int s.1), (2, .int s.2)] [.int o2, .int s.1] 21
      refine g_iadd C dX6_loadNow_21 ?_
      refine g_istore_n (lv2 := [(1, .int (s.1 + o2)), (0, .ref (a 0)), (2, .int s.2)]) C dX6_loadNow_22 rfl (by decide) rfl ?_
      refine g_iinc (v := (s.2 + (1 : Int32))) (lv2 := [(2, .int (s.2 + (1 : Int32))), (1, .int (s.1 + o2)), (0, .ref (a 0))]) C dX6_loadNow_23 2 rfl (ii (by decide)) (by decide) rfl ?_
      refine g_goto (tgt := 4) C dX6_loadNow_26 (by decide) ?_
      refine g_sub (lv2 := [(0, .ref (a 0)), (1, .int (s.1 + o2)), (2, .int (s.2 + (1 : Int32)))]) [2, 1, 0] rfl ?_
      exact hK4 ((s.1 + o2), (s.2 + (1 : Int32))) hf)
  unfold f_X6_loadNow at hf
  refine g_iconst (v := (0 : Int32)) C dX6_loadNow_0 (by decide) ?_
  refine g_istore_n (lv2 := [(1, .int (0 : Int32)), (0, .ref (a 0))]) C dX6_loadNow_1 rfl (by decide) rfl ?_
  refine g_iconst (v := (0 : Int32)) C dX6_loadNow_2 (by decide) ?_
  refine g_istore_n (lv2 := [(2, .int (0 : Int32)), (1, .int (0 : Int32)), (0, .ref (a 0))]) C dX6_loadNow_3 rfl (by decide) rfl ?_
  refine g_sub (lv2 := [(0, .ref (a 0)), (1, .int (0 : Int32)), (2, .int (0 : Int32))]) [2, 1, 0] rfl ?_
  exact h4 N ((0 : Int32), (0 : Int32)) hf
def b_X6_carry_137 (N : Nat) (V : Md) (K : (Md × Int32 × Int32) → Option (Md)) (s : Md × Int32 × Int32) : Option (Md) := (if ((83 : Int32) + ((3 : Int32) * (s.1.1 (Int32.toNatClampNeg (10 : Int32))))) ≤ s.2.2 then some ((upd s.1.1 (Int32.toNatClampNeg (10 : Int32)) s.2.1), s.1.2.1, s.1.2.2.1, s.1.2.2.2.1, s.1.2.2.2.2.1, s.1.2.2.2.2.2.1, s.1.2.2.2.2.2.2.1, s.1.2.2.2.2.2.2.2.1, s.1.2.2.2.2.2.2.2.2.1, s.1.2.2.2.2.2.2.2.2.2.1, s.1.2.2.2.2.2.2.2.2.2.2.1, s.1.2.2.2.2.2.2.2.2.2.2.2.1, s.1.2.2.2.2.2.2.2.2.2.2.2.2.1, s.1.2.2.2.2.2.2.2.2.2.2.2.2.2) else (ix s.2.2 173 (K (((upd s.1.1 (Int32.toNatClampNeg s.2.2) (0 : Int32)), s.1.2.1, s.1.2.2.1, s.1.2.2.2.1, s.1.2.2.2.2.1, s.1.2.2.2.2.2.1, s.1.2.2.2.2.2.2.1, s.1.2.2.2.2.2.2.2.1, s.1.2.2.2.2.2.2.2.2.1, s.1.2.2.2.2.2.2.2.2.2.1, s.1.2.2.2.2.2.2.2.2.2.2.1, s.1.2.2.2.2.2.2.2.2.2.2.2.1, s.1.2.2.2.2.2.2.2.2.2.2.2.2.1, s.1.2.2.2.2.2.2.2.2.2.2.2.2.2), s.2.1, (s.2.2 + (1 : Int32))))))
def b_X6_carry_124 (N : Nat) (V : Md) (K : (Md × Int32 × Int32) → Option (Md)) (s : Md × Int32 × Int32) : Option (Md) := K (s.1, s.2.1, (s.2.2 + (1 : Int32)))
def b_X6_carry_4 (N : Nat) (V : Md) (K : (Md × Int32 × Int32) → Option (Md)) (s : Md × Int32 × Int32) : Option (Md) := (if (s.1.1 (Int32.toNatClampNeg (10 : Int32))) ≤ s.2.2 then lp (b_X6_carry_137 N V) N (s.1, s.2.1, ((83 : Int32) + ((3 : Int32) * s.2.1))) else ((f_X6_placeOf s.1 s.2.2).bind fun o4 => (if (o4 + (s.1.1 (Int32.toNatClampNeg (8 : Int32)))) < (1000 : Int32) then ((f_X6_weight s.1 s.2.2).bind fun o7 => (ix ((83 : Int32) + ((3 : Int32) * s.2.1)) 173 (ix (((83 : Int32) + ((3 : Int32) * s.2.2)) + (2 : Int32)) 173 (ix (((83 : Int32) + ((3 : Int32) * s.2.1)) + (2 : Int32)) 173 (ix (((83 : Int32) + ((3 : Int32) * s.2.1)) + (1 : Int32)) 173 (b_X6_carry_124 N V K (((upd (upd (upd s.1.1 (Int32.toNatClampNeg ((83 : Int32) + ((3 : Int32) * s.2.1))) o7) (Int32.toNatClampNeg (((83 : Int32) + ((3 : Int32) * s.2.1)) + (2 : Int32))) ((upd s.1.1 (Int32.toNatClampNeg ((83 : Int32) + ((3 : Int32) * s.2.1))) o7) (Int32.toNatClampNeg (((83 : Int32) + ((3 : Int32) * s.2.2)) + (2 : Int32))))) (Int32.toNatClampNeg (((83 : Int32) + ((3 : Int32) * s.2.1)) + (1 : Int32))) (o4 + (s.1.1 (Int32.toNatClampNeg (8 : Int32))))), s.1.2.1, s.1.2.2.1, s.1.2.2.2.1, s.1.2.2.2.2.1, s.1.2.2.2.2.2.1, s.1.2.2.2.2.2.2.1, s.1.2.2.2.2.2.2.2.1, s.1.2.2.2.2.2.2.2.2.1, s.1.2.2.2.2.2.2.2.2.2.1, s.1.2.2.2.2.2.2.2.2.2.2.1, s.1.2.2.2.2.2.2.2.2.2.2.2.1, s.1.2.2.2.2.2.2.2.2.2.2.2.2.1, s.1.2.2.2.2.2.2.2.2.2.2.2.2.2), (s.2.1 + (1 : Int32)), s.2.2))))))) else ((f_X6_weight ((upd s.1.1 (Int32.toNatClampNeg (17 : Int32)) ((s.1.1 (Int32.toNatClampNeg (17 : Int32))) + (1 : Int32))), s.1.2.1, s.1.2.2.1, s.1.2.2.2.1, s.1.2.2.2.2.1, s.1.2.2.2.2.2.1, s.1.2.2.2.2.2.2.1, s.1.2.2.2.2.2.2.2.1, s.1.2.2.2.2.2.2.2.2.1, s.1.2.2.2.2.2.2.2.2.2.1, s.1.2.2.2.2.2.2.2.2.2.2.1, s.1.2.2.2.2.2.2.2.2.2.2.2.1, s.1.2.2.2.2.2.2.2.2.2.2.2.2.1, s.1.2.2.2.2.2.2.2.2.2.2.2.2.2) s.2.2).bind fun o13 => b_X6_carry_124 N V K (((upd (upd s.1.1 (Int32.toNatClampNeg (17 : Int32)) ((s.1.1 (Int32.toNatClampNeg (17 : Int32))) + (1 : Int32))) (Int32.toNatClampNeg (18 : Int32)) (((upd s.1.1 (Int32.toNatClampNeg (17 : Int32)) ((s.1.1 (Int32.toNatClampNeg (17 : Int32))) + (1 : Int32))) (Int32.toNatClampNeg (18 : Int32))) + o13)), s.1.2.1, s.1.2.2.1, s.1.2.2.2.1, s.1.2.2.2.2.1, s.1.2.2.2.2.2.1, s.1.2.2.2.2.2.2.1, s.1.2.2.2.2.2.2.2.1, s.1.2.2.2.2.2.2.2.2.1, s.1.2.2.2.2.2.2.2.2.2.1, s.1.2.2.2.2.2.2.2.2.2.2.1, s.1.2.2.2.2.2.2.2.2.2.2.2.1, s.1.2.2.2.2.2.2.2.2.2.2.2.2.1, s.1.2.2.2.2.2.2.2.2.2.2.2.2.2), s.2.1, s.2.2)))))
def f_X6_carry (N : Nat) (V : Md) : Option (Md) := lp (b_X6_carry_4 N V) N (V, (0 : Int32), (0 : Int32))
abbrev rm_X6_carry : Room := { frames := 1, cells := 0, slots := 0, locals := 21 }
set_option maxRecDepth 100000 in
theorem k_X6_carry : CF yX6_carry cX6_carry 4 (Option.none : Option FieldType) 0 := ⟨mt_760, mp_41, mt_13, mt_761, ⟨rfl, by decide +kernel, by decide +kernel, by decide +kernel⟩⟩
set_option maxHeartbeats 4000000 in
set_option maxRecDepth 100000 in
theorem c_X6_carry {E : Ev} {a : Nat → Nat} {V : Md} {N : Nat} {o : Md} (hf : f_X6_carry N V = some o) : ∀ l, MG l yX6_carry cX6_carry 4 (Option.none : Option FieldType) rm_X6_carry E [.ref (a 0)] [md E a V] (fun v Y => v = none ∧ Y = [md E a o]) := by
  refine MG.mk (own := RX6) (lv0 := [(0, .ref (a 0))]) (by decide) rfl (Nat.le_of_ble_eq_true rfl) rfl (fun X C K I => ?_)
  have h137 : ∀ (n : Nat) (s : Md × Int32 × Int32), lp (b_X6_carry_137 N V) n s = some o → G E X 4 [md E a s.1] 0 0 [(0, .ref (a 0)), (1, .int s.2.1), (2, .int s.2.2)] [] 137 := lp_ind (by
    intro K137 hK137 s hf
    unfold b_X6_carry_137 at hf
    refine g_iload_n C dX6_carry_137 rfl 2 rfl ?_
    refine g_bipush (v := (83 : Int32)) C dX6_carry_138 (by decide) ?_
    refine g_iconst (v := (3 : Int32)) C dX6_carry_140 (by decide) ?_
    refine g_aload_n C dX6_carry_141 rfl 0 rfl ?_
    refine g_get (Cl := RX6) (T := TX6) (N := 14) C mi_X6 0 rfl (List.mem_of_getElem? (i := 0) rfl) rfl 0 (by decide) mt_589 rfl rfl dX6_carry_142 ?_
    refine g_bipush (v := (10 : Int32)) C dX6_carry_145 (by decide) ?_
    refine g_iald C 0 rfl (List.mem_of_getElem? (i := 1) rfl) (by show ¬ (_ ∨ _); decide) dX6_carry_147 ?_
    refine g_imul C dX6_carry_148 ?_
    refine g_iadd C dX6_carry_149 ?_
    refine g_icmp_ge (tgt := 166) C dX6_carry_150 (by decide) (fun c1 => ?_) (fun c1 => ?_)
    · have hf := (f_if hf).1 c1
      refine g_aload_n C dX6_carry_166 rfl 0 rfl ?_
      refine g_get (Cl := RX6) (T := TX6) (N := 14) C mi_X6 0 rfl (List.mem_of_getElem? (i := 0) rfl) rfl 0 (by decide) mt_589 rfl rfl dX6_carry_167 ?_
      refine g_bipush (v := (10 : Int32)) C dX6_carry_170 (by decide) ?_
      refine g_iload_n C dX6_carry_172 rfl 1 rfl ?_
      refine g_iast (Y2 := [md E a ((upd s.1.1 (Int32.toNatClampNeg (10 : Int32)) s.2.1), s.1.2.1, s.1.2.2.1, s.1.2.2.2.1, s.1.2.2.2.2.1, s.1.2.2.2.2.2.1, s.1.2.2.2.2.2.2.1, s.1.2.2.2.2.2.2.2.1, s.1.2.2.2.2.2.2.2.2.1, s.1.2.2.2.2.2.2.2.2.2.1, s.1.2.2.2.2.2.2.2.2.2.2.1, s.1.2.2.2.2.2.2.2.2.2.2.2.1, s.1.2.2.2.2.2.2.2.2.2.2.2.2.1, s.1.2.2.2.2.2.2.2.2.2.2.2.2.2)]) C 0 1 rfl rfl (by show ¬ (_ ∨ _); decide) dX6_carry_173 rfl ?_
      obtain rfl := Option.some.inj hf
      exact g_ret C K dX6_carry_174 (Nat.le_of_ble_eq_true rfl) (Nat.le_of_ble_eq_true rfl) ⟨rfl, rfl⟩
    · have hf := (f_if hf).2 c1
      refine g_aload_n C dX6_carry_153 rfl 0 rfl ?_
      refine g_get (Cl := RX6) (T := TX6) (N := 14) C mi_X6 0 rfl (List.mem_of_getElem? (i := 0) rfl) rfl 0 (by decide) mt_589 rfl rfl dX6_carry_154 ?_
      refine g_iload_n C dX6_carry_157 rfl 2 rfl ?_
      refine g_iconst (v := (0 : Int32)) C dX6_carry_158 (by decide) ?_
      obtain ⟨i2, hf⟩ := ix_s hf
      refine g_iast (Y2 := [md E a ((upd s.1.1 (Int32.toNatClampNeg s.2.2) (0 : Int32)), s.1.2.1, s.1.2.2.1, s.1.2.2.2.1, s.1.2.2.2.2.1, s.1.2.2.2.2.2.1, s.1.2.2.2.2.2.2.1, s.1.2.2.2.2.2.2.2.1, s.1.2.2.2.2.2.2.2.2.1, s.1.2.2.2.2.2.2.2.2.2.1, s.1.2.2.2.2.2.2.2.2.2.2.1, s.1.2.2.2.2.2.2.2.2.2.2.2.1, s.1.2.2.2.2.2.2.2.2.2.2.2.2.1, s.1.2.2.2.2.2.2.2.2.2.2.2.2.2)]) C 0 1 rfl rfl i2 dX6_carry_159 rfl ?_
      refine g_iinc (v := (s.2.2 + (1 : Int32))) (lv2 := [(2, .int (s.2.2 + (1 : Int32))), (0, .ref (a 0)), (1, .int s.2.1)]) C dX6_carry_160 2 rfl (ii (by decide)) (by decide) rfl ?_
      refine g_goto (tgt := 137) C dX6_carry_163 (by decide) ?_
      refine g_sub (lv2 := [(0, .ref (a 0)), (1, .int s.2.1), (2, .int (s.2.2 + (1 : Int32)))]) [1, 2, 0] rfl ?_
      exact hK137 (((upd s.1.1 (Int32.toNatClampNeg s.2.2) (0 : Int32)), s.1.2.1, s.1.2.2.1, s.1.2.2.2.1, s.1.2.2.2.2.1, s.1.2.2.2.2.2.1, s.1.2.2.2.2.2.2.1, s.1.2.2.2.2.2.2.2.1, s.1.2.2.2.2.2.2.2.2.1, s.1.2.2.2.2.2.2.2.2.2.1, s.1.2.2.2.2.2.2.2.2.2.2.1, s.1.2.2.2.2.2.2.2.2.2.2.2.1, s.1.2.2.2.2.2.2.2.2.2.2.2.2.1, s.1.2.2.2.2.2.2.2.2.2.2.2.2.2), s.2.1, (s.2.2 + (1 : Int32))) hf)
  have h124 : ∀ (K : (Md × Int32 × Int32) → Option (Md)), (∀ s : Md × Int32 × Int32, K s = some o → G E X 4 [md E a s.1] 0 0 [(0, .ref (a 0)), (1, .int s.2.1), (2, .int s.2.2)] [] 4) → ∀ s : Md × Int32 × Int32, b_X6_carry_124 N V K s = some o → G E X 4 [md E a s.1] 0 0 [(0, .ref (a 0)), (1, .int s.2.1), (2, .int s.2.2)] [] 124 := by
    intro K4 hK4 s hf
    unfold b_X6_carry_124 at hf
    refine g_iinc (v := (s.2.2 + (1 : Int32))) (lv2 := [(2, .int (s.2.2 + (1 : Int32))), (0, .ref (a 0)), (1, .int s.2.1)]) C dX6_carry_124 2 rfl (ii (by decide)) (by decide) rfl ?_
    refine g_goto (tgt := 4) C dX6_carry_127 (by decide) ?_
    refine g_sub (lv2 := [(0, .ref (a 0)), (1, .int s.2.1), (2, .int (s.2.2 + (1 : Int32)))]) [1, 2, 0] rfl ?_
    exact hK4 (s.1, s.2.1, (s.2.2 + (1 : Int32))) hf
  have h4 : ∀ (n : Nat) (s : Md × Int32 × Int32), lp (b_X6_carry_4 N V) n s = some o → G E X 4 [md E a s.1] 0 0 [(0, .ref (a 0)), (1, .int s.2.1), (2, .int s.2.2)] [] 4 := lp_ind (by
    intro K4 hK4 s hf
    unfold b_X6_carry_4 at hf
    refine g_iload_n C dX6_carry_4 rfl 2 rfl ?_
    refine g_aload_n C dX6_carry_5 rfl 0 rfl ?_
    refine g_get (Cl := RX6) (T := TX6) (N := 14) C mi_X6 0 rfl (List.mem_of_getElem? (i := 0) rfl) rfl 0 (by decide) mt_589 rfl rfl dX6_carry_6 ?_
    refine g_bipush (v := (10 : Int32)) C dX6_carry_9 (by decide) ?_
    refine g_iald C 0 rfl (List.mem_of_getElem? (i := 1) rfl) (by show ¬ (_ ∨ _); decide) dX6_carry_11 ?_
    refine g_icmp_ge (tgt := 130) C dX6_carry_12 (by decide) (fun c3 => ?_) (fun c3 => ?_)
    · have hf := (f_if hf).1 c3
      refine g_bipush (v := (83 : Int32)) C dX6_carry_130 (by decide) ?_
      refine g_iconst (v := (3 : Int32)) C dX6_carry_132 (by decide) ?_
      refine g_iload_n C dX6_carry_133 rfl 1 rfl ?_
      refine g_imul C dX6_carry_134 ?_
      refine g_iadd C dX6_carry_135 ?_
      refine g_istore_n (lv2 := [(2, .int ((83 : Int32) + ((3 : Int32) * s.2.1))), (0, .ref (a 0)), (1, .int s.2.1)]) C dX6_carry_136 rfl (by decide) rfl ?_
      refine g_sub (lv2 := [(0, .ref (a 0)), (1, .int s.2.1), (2, .int ((83 : Int32) + ((3 : Int32) * s.2.1)))]) [1, 2, 0] rfl ?_
      exact h137 N (s.1, s.2.1, ((83 : Int32) + ((3 : Int32) * s.2.1))) hf
    · have hf := (f_if hf).2 c3
      refine g_aload_n C dX6_carry_15 rfl 0 rfl ?_
      refine g_iload_n C dX6_carry_16 rfl 2 rfl ?_
      obtain ⟨o4, h5, hf⟩ := bind_s hf
      refine g_callV (As := [.int s.2.2]) (rest := []) C k_X6_placeOf (fun l => c_X6_placeOf (E := E) (a := a) (V := s.1) h5 l) mt_762 [0] rfl (by decide) ⟨_, _, _, _, List.mem_flatten.mpr ⟨_, List.mem_of_getElem? (i := 0) rfl, List.mem_of_getElem? (i := 0) rfl⟩, rfl⟩ rfl (Nat.le_of_ble_eq_true rfl) ⟨Nat.le_of_ble_eq_true rfl, Nat.le_of_ble_eq_true rfl, Nat.le_of_ble_eq_true rfl, Nat.le_of_ble_eq_true rfl⟩ dX6_carry_17 ?_
      rintro _ _ ⟨rfl, rfl⟩
      show G E X 4 [md E a s.1] 0 0 [(0, .ref (a 0)), (1, .int s.2.1), (2, .int s.2.2)] [.int o4] 20
      refine g_aload_n C dX6_carry_20 rfl 0 rfl ?_
      refine g_get (Cl := RX6) (T := TX6) (N := 14) C mi_X6 0 rfl (List.mem_of_getElem? (i := 0) rfl) rfl 0 (by decide) mt_589 rfl rfl dX6_carry_21 ?_
      refine g_bipush (v := (8 : Int32)) C dX6_carry_24 (by decide) ?_
      refine g_iald C 0 rfl (List.mem_of_getElem? (i := 1) rfl) (by show ¬ (_ ∨ _); decide) dX6_carry_26 ?_
      refine g_iadd C dX6_carry_27 ?_
      refine g_istore_n (lv2 := [(3, .int (o4 + (s.1.1 (Int32.toNatClampNeg (8 : Int32))))), (0, .ref (a 0)), (1, .int s.2.1), (2, .int s.2.2)]) C dX6_carry_28 rfl (by decide) rfl ?_
      refine g_iload_n C dX6_carry_29 rfl 0 rfl ?_
      refine g_sipush (v := (1000 : Int32)) C dX6_carry_30 (by decide) ?_
      refine g_icmp_lt (tgt := 65) C dX6_carry_33 (by decide) (fun c6 => ?_) (fun c6 => ?_)
      · have hf := (f_if hf).1 c6
        refine g_aload_n C dX6_carry_65 rfl 1 rfl ?_
        refine g_get (Cl := RX6) (T := TX6) (N := 14) C mi_X6 0 rfl (List.mem_of_getElem? (i := 0) rfl) rfl 0 (by decide) mt_589 rfl rfl dX6_carry_66 ?_
        refine g_bipush (v := (83 : Int32)) C dX6_carry_69 (by decide) ?_
        refine g_iconst (v := (3 : Int32)) C dX6_carry_71 (by decide) ?_
        refine g_iload_n C dX6_carry_72 rfl 2 rfl ?_
        refine g_imul C dX6_carry_73 ?_
        refine g_iadd C dX6_carry_74 ?_
        refine g_aload_n C dX6_carry_75 rfl 1 rfl ?_
        refine g_iload_n C dX6_carry_76 rfl 3 rfl ?_
        obtain ⟨o7, h8, hf⟩ := bind_s hf
        refine g_callV (As := [.int s.2.2]) (rest := [.int ((83 : Int32) + ((3 : Int32) * s.2.1)), .ref (a 1)]) C k_X6_weight (fun l => c_X6_weight (E := E) (a := a) (V := s.1) h8 l) mt_721 [0] rfl (by decide) ⟨_, _, _, _, List.mem_flatten.mpr ⟨_, List.mem_of_getElem? (i := 0) rfl, List.mem_of_getElem? (i := 0) rfl⟩, rfl⟩ rfl (Nat.le_of_ble_eq_true rfl) ⟨Nat.le_of_ble_eq_true rfl, Nat.le_of_ble_eq_true rfl, Nat.le_of_ble_eq_true rfl, Nat.le_of_ble_eq_true rfl⟩ dX6_carry_77 ?_
        rintro _ _ ⟨rfl, rfl⟩
        show G E X 4 [md E a s.1] 0 0 [(3, .int (o4 + (s.1.1 (Int32.toNatClampNeg (8 : Int32))))), (0, .ref (a 0)), (1, .int s.2.1), (2, .int s.2.2)] [.int o7, .int ((83 : Int32) + ((3 : Int32) * s.2.1)), .ref (a 1)] 80
        obtain ⟨i9, hf⟩ := ix_s hf
        refine g_iast (Y2 := [md E a ((upd s.1.1 (Int32.toNatClampNeg ((83 : Int32) + ((3 : Int32) * s.2.1))) o7), s.1.2.1, s.1.2.2.1, s.1.2.2.2.1, s.1.2.2.2.2.1, s.1.2.2.2.2.2.1, s.1.2.2.2.2.2.2.1, s.1.2.2.2.2.2.2.2.1, s.1.2.2.2.2.2.2.2.2.1, s.1.2.2.2.2.2.2.2.2.2.1, s.1.2.2.2.2.2.2.2.2.2.2.1, s.1.2.2.2.2.2.2.2.2.2.2.2.1, s.1.2.2.2.2.2.2.2.2.2.2.2.2.1, s.1.2.2.2.2.2.2.2.2.2.2.2.2.2)]) C 0 1 rfl rfl i9 dX6_carry_80 rfl ?_
        refine g_aload_n C dX6_carry_81 rfl 1 rfl ?_
        refine g_get (Cl := RX6) (T := TX6) (N := 14) C mi_X6 0 rfl (List.mem_of_getElem? (i := 0) rfl) rfl 0 (by decide) mt_589 rfl rfl dX6_carry_82 ?_
        refine g_bipush (v := (83 : Int32)) C dX6_carry_85 (by decide) ?_
        refine g_iconst (v := (3 : Int32)) C dX6_carry_87 (by decide) ?_
        refine g_iload_n C dX6_carry_88 rfl 2 rfl ?_
        refine g_imul C dX6_carry_89 ?_
        refine g_iadd C dX6_carry_90 ?_
        refine g_iconst (v := (2 : Int32)) C dX6_carry_91 (by decide) ?_
        refine g_iadd C dX6_carry_92 ?_
        refine g_aload_n C dX6_carry_93 rfl 1 rfl ?_
        refine g_get (Cl := RX6) (T := TX6) (N := 14) C mi_X6 0 rfl (List.mem_of_getElem? (i := 0) rfl) rfl 0 (by decide) mt_589 rfl rfl dX6_carry_94 ?_
        refine g_bipush (v := (83 : Int32)) C dX6_carry_97 (by decide) ?_
        refine g_iconst (v := (3 : Int32)) C dX6_carry_99 (by decide) ?_
        refine g_iload_n C dX6_carry_100 rfl 3 rfl ?_
        refine g_imul C dX6_carry_101 ?_
        refine g_iadd C dX6_carry_102 ?_
        refine g_iconst (v := (2 : Int32)) C dX6_carry_103 (by decide) ?_
        refine g_iadd C dX6_carry_104 ?_
        obtain ⟨i10, hf⟩ := ix_s hf
        refine g_iald C 0 rfl (List.mem_of_getElem? (i := 1) rfl) i10 dX6_carry_105 ?_
        obtain ⟨i11, hf⟩ := ix_s hf
        refine g_iast (Y2 := [md E a ((upd (upd s.1.1 (Int32.toNatClampNeg ((83 : Int32) + ((3 : Int32) * s.2.1))) o7) (Int32.toNatClampNeg (((83 : Int32) + ((3 : Int32) * s.2.1)) + (2 : Int32))) ((upd s.1.1 (Int32.toNatClampNeg ((83 : Int32) + ((3 : Int32) * s.2.1))) o7) (Int32.toNatClampNeg (((83 : Int32) + ((3 : Int32) * s.2.2)) + (2 : Int32))))), s.1.2.1, s.1.2.2.1, s.1.2.2.2.1, s.1.2.2.2.2.1, s.1.2.2.2.2.2.1, s.1.2.2.2.2.2.2.1, s.1.2.2.2.2.2.2.2.1, s.1.2.2.2.2.2.2.2.2.1, s.1.2.2.2.2.2.2.2.2.2.1, s.1.2.2.2.2.2.2.2.2.2.2.1, s.1.2.2.2.2.2.2.2.2.2.2.2.1, s.1.2.2.2.2.2.2.2.2.2.2.2.2.1, s.1.2.2.2.2.2.2.2.2.2.2.2.2.2)]) C 0 1 rfl rfl i11 dX6_carry_106 rfl ?_
        refine g_aload_n C dX6_carry_107 rfl 1 rfl ?_
        refine g_get (Cl := RX6) (T := TX6) (N := 14) C mi_X6 0 rfl (List.mem_of_getElem? (i := 0) rfl) rfl 0 (by decide) mt_589 rfl rfl dX6_carry_108 ?_
        refine g_bipush (v := (83 : Int32)) C dX6_carry_111 (by decide) ?_
        refine g_iconst (v := (3 : Int32)) C dX6_carry_113 (by decide) ?_
        refine g_iload_n C dX6_carry_114 rfl 2 rfl ?_
        refine g_imul C dX6_carry_115 ?_
        refine g_iadd C dX6_carry_116 ?_
        refine g_iconst (v := (1 : Int32)) C dX6_carry_117 (by decide) ?_
        refine g_iadd C dX6_carry_118 ?_
        refine g_iload_n C dX6_carry_119 rfl 0 rfl ?_
        obtain ⟨i12, hf⟩ := ix_s hf
        refine g_iast (Y2 := [md E a ((upd (upd (upd s.1.1 (Int32.toNatClampNeg ((83 : Int32) + ((3 : Int32) * s.2.1))) o7) (Int32.toNatClampNeg (((83 : Int32) + ((3 : Int32) * s.2.1)) + (2 : Int32))) ((upd s.1.1 (Int32.toNatClampNeg ((83 : Int32) + ((3 : Int32) * s.2.1))) o7) (Int32.toNatClampNeg (((83 : Int32) + ((3 : Int32) * s.2.2)) + (2 : Int32))))) (Int32.toNatClampNeg (((83 : Int32) + ((3 : Int32) * s.2.1)) + (1 : Int32))) (o4 + (s.1.1 (Int32.toNatClampNeg (8 : Int32))))), s.1.2.1, s.1.2.2.1, s.1.2.2.2.1, s.1.2.2.2.2.1, s.1.2.2.2.2.2.1, s.1.2.2.2.2.2.2.1, s.1.2.2.2.2.2.2.2.1, s.1.2.2.2.2.2.2.2.2.1, s.1.2.2.2.2.2.2.2.2.2.1, s.1.2.2.2.2.2.2.2.2.2.2.1, s.1.2.2.2.2.2.2.2.2.2.2.2.1, s.1.2.2.2.2.2.2.2.2.2.2.2.2.1, s.1.2.2.2.2.2.2.2.2.2.2.2.2.2)]) C 0 1 rfl rfl i12 dX6_carry_120 rfl ?_
        refine g_iinc (v := (s.2.1 + (1 : Int32))) (lv2 := [(1, .int (s.2.1 + (1 : Int32))), (3, .int (o4 + (s.1.1 (Int32.toNatClampNeg (8 : Int32))))), (0, .ref (a 0)), (2, .int s.2.2)]) C dX6_carry_121 2 rfl (ii (by decide)) (by decide) rfl ?_
        refine g_sub (lv2 := [(0, .ref (a 0)), (1, .int (s.2.1 + (1 : Int32))), (2, .int s.2.2)]) [2, 0, 3] rfl ?_
        exact h124 _ hK4 (((upd (upd (upd s.1.1 (Int32.toNatClampNeg ((83 : Int32) + ((3 : Int32) * s.2.1))) o7) (Int32.toNatClampNeg (((83 : Int32) + ((3 : Int32) * s.2.1)) + (2 : Int32))) ((upd s.1.1 (Int32.toNatClampNeg ((83 : Int32) + ((3 : Int32) * s.2.1))) o7) (Int32.toNatClampNeg (((83 : Int32) + ((3 : Int32) * s.2.2)) + (2 : Int32))))) (Int32.toNatClampNeg (((83 : Int32) + ((3 : Int32) * s.2.1)) + (1 : Int32))) (o4 + (s.1.1 (Int32.toNatClampNeg (8 : Int32))))), s.1.2.1, s.1.2.2.1, s.1.2.2.2.1, s.1.2.2.2.2.1, s.1.2.2.2.2.2.1, s.1.2.2.2.2.2.2.1, s.1.2.2.2.2.2.2.2.1, s.1.2.2.2.2.2.2.2.2.1, s.1.2.2.2.2.2.2.2.2.2.1, s.1.2.2.2.2.2.2.2.2.2.2.1, s.1.2.2.2.2.2.2.2.2.2.2.2.1, s.1.2.2.2.2.2.2.2.2.2.2.2.2.1, s.1.2.2.2.2.2.2.2.2.2.2.2.2.2), (s.2.1 + (1 : Int32)), s.2.2) hf
      · have hf := (f_if hf).2 c6
        refine g_aload_n C dX6_carry_36 rfl 1 rfl ?_
        refine g_get (Cl := RX6) (T := TX6) (N := 14) C mi_X6 0 rfl (List.mem_of_getElem? (i := 0) rfl) rfl 0 (by decide) mt_589 rfl rfl dX6_carry_37 ?_
        refine g_bipush (v := (17 : Int32)) C dX6_carry_40 (by decide) ?_
        refine g_dup2 C dX6_carry_42 rfl rfl ?_
        refine g_iald C 0 rfl (List.mem_of_getElem? (i := 1) rfl) (by show ¬ (_ ∨ _); decide) dX6_carry_43 ?_
        refine g_iconst (v := (1 : Int32)) C dX6_carry_44 (by decide) ?_
        refine g_iadd C dX6_carry_45 ?_
        refine g_iast (Y2 := [md E a ((upd s.1.1 (Int32.toNatClampNeg (17 : Int32)) ((s.1.1 (Int32.toNatClampNeg (17 : Int32))) + (1 : Int32))), s.1.2.1, s.1.2.2.1, s.1.2.2.2.1, s.1.2.2.2.2.1, s.1.2.2.2.2.2.1, s.1.2.2.2.2.2.2.1, s.1.2.2.2.2.2.2.2.1, s.1.2.2.2.2.2.2.2.2.1, s.1.2.2.2.2.2.2.2.2.2.1, s.1.2.2.2.2.2.2.2.2.2.2.1, s.1.2.2.2.2.2.2.2.2.2.2.2.1, s.1.2.2.2.2.2.2.2.2.2.2.2.2.1, s.1.2.2.2.2.2.2.2.2.2.2.2.2.2)]) C 0 1 rfl rfl (by show ¬ (_ ∨ _); decide) dX6_carry_46 rfl ?_
        refine g_aload_n C dX6_carry_47 rfl 1 rfl ?_
        refine g_get (Cl := RX6) (T := TX6) (N := 14) C mi_X6 0 rfl (List.mem_of_getElem? (i := 0) rfl) rfl 0 (by decide) mt_589 rfl rfl dX6_carry_48 ?_
        refine g_bipush (v := (18 : Int32)) C dX6_carry_51 (by decide) ?_
        refine g_dup2 C dX6_carry_53 rfl rfl ?_
        refine g_iald C 0 rfl (List.mem_of_getElem? (i := 1) rfl) (by show ¬ (_ ∨ _); decide) dX6_carry_54 ?_
        refine g_aload_n C dX6_carry_55 rfl 1 rfl ?_
        refine g_iload_n C dX6_carry_56 rfl 3 rfl ?_
        obtain ⟨o13, h14, hf⟩ := bind_s hf
        refine g_callV (As := [.int s.2.2]) (rest := [.int ((upd s.1.1 (Int32.toNatClampNeg (17 : Int32)) ((s.1.1 (Int32.toNatClampNeg (17 : Int32))) + (1 : Int32))) (Int32.toNatClampNeg (18 : Int32))), .int (18 : Int32), .ref (a 1)]) C k_X6_weight (fun l => c_X6_weight (E := E) (a := a) (V := ((upd s.1.1 (Int32.toNatClampNeg (17 : Int32)) ((s.1.1 (Int32.toNatClampNeg (17 : Int32))) + (1 : Int32))), s.1.2.1, s.1.2.2.1, s.1.2.2.2.1, s.1.2.2.2.2.1, s.1.2.2.2.2.2.1, s.1.2.2.2.2.2.2.1, s.1.2.2.2.2.2.2.2.1, s.1.2.2.2.2.2.2.2.2.1, s.1.2.2.2.2.2.2.2.2.2.1, s.1.2.2.2.2.2.2.2.2.2.2.1, s.1.2.2.2.2.2.2.2.2.2.2.2.1, s.1.2.2.2.2.2.2.2.2.2.2.2.2.1, s.1.2.2.2.2.2.2.2.2.2.2.2.2.2)) h14 l) mt_721 [0] rfl (by decide) ⟨_, _, _, _, List.mem_flatten.mpr ⟨_, List.mem_of_getElem? (i := 0) rfl, List.mem_of_getElem? (i := 0) rfl⟩, rfl⟩ rfl (Nat.le_of_ble_eq_true rfl) ⟨Nat.le_of_ble_eq_true rfl, Nat.le_of_ble_eq_true rfl, Nat.le_of_ble_eq_true rfl, Nat.le_of_ble_eq_true rfl⟩ dX6_carry_57 ?_
        rintro _ _ ⟨rfl, rfl⟩
        show G E X 4 [md E a ((upd s.1.1 (Int32.toNatClampNeg (17 : Int32)) ((s.1.1 (Int32.toNatClampNeg (17 : Int32))) + (1 : Int32))), s.1.2.1, s.1.2.2.1, s.1.2.2.2.1, s.1.2.2.2.2.1, s.1.2.2.2.2.2.1, s.1.2.2.2.2.2.2.1, s.1.2.2.2.2.2.2.2.1, s.1.2.2.2.2.2.2.2.2.1, s.1.2.2.2.2.2.2.2.2.2.1, s.1.2.2.2.2.2.2.2.2.2.2.1, s.1.2.2.2.2.2.2.2.2.2.2.2.1, s.1.2.2.2.2.2.2.2.2.2.2.2.2.1, s.1.2.2.2.2.2.2.2.2.2.2.2.2.2)] 0 0 [(3, .int (o4 + (s.1.1 (Int32.toNatClampNeg (8 : Int32))))), (0, .ref (a 0)), (1, .int s.2.1), (2, .int s.2.2)] [.int o13, .int ((upd s.1.1 (Int32.toNatClampNeg (17 : Int32)) ((s.1.1 (Int32.toNatClampNeg (17 : Int32))) + (1 : Int32))) (Int32.toNatClampNeg (18 : Int32))), .int (18 : Int32), .ref (a 1)] 60
        refine g_iadd C dX6_carry_60 ?_
        refine g_iast (Y2 := [md E a ((upd (upd s.1.1 (Int32.toNatClampNeg (17 : Int32)) ((s.1.1 (Int32.toNatClampNeg (17 : Int32))) + (1 : Int32))) (Int32.toNatClampNeg (18 : Int32)) (((upd s.1.1 (Int32.toNatClampNeg (17 : Int32)) ((s.1.1 (Int32.toNatClampNeg (17 : Int32))) + (1 : Int32))) (Int32.toNatClampNeg (18 : Int32))) + o13)), s.1.2.1, s.1.2.2.1, s.1.2.2.2.1, s.1.2.2.2.2.1, s.1.2.2.2.2.2.1, s.1.2.2.2.2.2.2.1, s.1.2.2.2.2.2.2.2.1, s.1.2.2.2.2.2.2.2.2.1, s.1.2.2.2.2.2.2.2.2.2.1, s.1.2.2.2.2.2.2.2.2.2.2.1, s.1.2.2.2.2.2.2.2.2.2.2.2.1, s.1.2.2.2.2.2.2.2.2.2.2.2.2.1, s.1.2.2.2.2.2.2.2.2.2.2.2.2.2)]) C 0 1 rfl rfl (by show ¬ (_ ∨ _); decide) dX6_carry_61 rfl ?_
        refine g_goto (tgt := 124) C dX6_carry_62 (by decide) ?_
        refine g_sub (lv2 := [(0, .ref (a 0)), (1, .int s.2.1), (2, .int s.2.2)]) [1, 2, 3] rfl ?_
        exact h124 _ hK4 (((upd (upd s.1.1 (Int32.toNatClampNeg (17 : Int32)) ((s.1.1 (Int32.toNatClampNeg (17 : Int32))) + (1 : Int32))) (Int32.toNatClampNeg (18 : Int32)) (((upd s.1.1 (Int32.toNatClampNeg (17 : Int32)) ((s.1.1 (Int32.toNatClampNeg (17 : Int32))) + (1 : Int32))) (Int32.toNatClampNeg (18 : Int32))) + o13)), s.1.2.1, s.1.2.2.1, s.1.2.2.2.1, s.1.2.2.2.2.1, s.1.2.2.2.2.2.1, s.1.2.2.2.2.2.2.1, s.1.2.2.2.2.2.2.2.1, s.1.2.2.2.2.2.2.2.2.1, s.1.2.2.2.2.2.2.2.2.2.1, s.1.2.2.2.2.2.2.2.2.2.2.1, s.1.2.2.2.2.2.2.2.2.2.2.2.1, s.1.2.2.2.2.2.2.2.2.2.2.2.2.1, s.1.2.2.2.2.2.2.2.2.2.2.2.2.2), s.2.1, s.2.2) hf)
  unfold f_X6_carry at hf
  refine g_iconst (v := (0 : Int32)) C dX6_carry_0 (by decide) ?_
  refine g_istore_n (lv2 := [(1, .int (0 : Int32)), (0, .ref (a 0))]) C dX6_carry_1 rfl (by decide) rfl ?_
  refine g_iconst (v := (0 : Int32)) C dX6_carry_2 (by decide) ?_
  refine g_istore_n (lv2 := [(2, .int (0 : Int32)), (1, .int (0 : Int32)), (0, .ref (a 0))]) C dX6_carry_3 rfl (by decide) rfl ?_
  refine g_sub (lv2 := [(0, .ref (a 0)), (1, .int (0 : Int32)), (2, .int (0 : Int32))]) [2, 1, 0] rfl ?_
  exact h4 N (V, (0 : Int32), (0 : Int32)) hf
def b_X6_halt_3 (N : Nat) (V : Md) (p0 : Int32) (K : (Md × Int32) → Option (Md)) (s : Md × Int32) : Option (Md) := (if s.2 < (5 : Int32) then ((f_X6_loadNow N ((upd (upd s.1.1 (Int32.toNatClampNeg (143 : Int32)) (s.1.1 (Int32.toNatClampNeg (7 : Int32)))) (Int32.toNatClampNeg (144 : Int32)) ((upd s.1.1 (Int32.toNatClampNeg (143 : Int32)) (s.1.1 (Int32.toNatClampNeg (7 : Int32)))) (Int32.toNatClampNeg (8 : Int32)))), s.1.2.1, s.1.2.2.1, s.1.2.2.2.1, s.1.2.2.2.2.1, s.1.2.2.2.2.2.1, s.1.2.2.2.2.2.2.1, s.1.2.2.2.2.2.2.2.1, s.1.2.2.2.2.2.2.2.2.1, s.1.2.2.2.2.2.2.2.2.2.1, s.1.2.2.2.2.2.2.2.2.2.2.1, s.1.2.2.2.2.2.2.2.2.2.2.2.1, s.1.2.2.2.2.2.2.2.2.2.2.2.2.1, s.1.2.2.2.2.2.2.2.2.2.2.2.2.2)).bind fun o2 => some ((upd (upd (upd (upd (upd (upd (upd s.1.1 (Int32.toNatClampNeg (143 : Int32)) (s.1.1 (Int32.toNatClampNeg (7 : Int32)))) (Int32.toNatClampNeg (144 : Int32)) ((upd s.1.1 (Int32.toNatClampNeg (143 : Int32)) (s.1.1 (Int32.toNatClampNeg (7 : Int32)))) (Int32.toNatClampNeg (8 : Int32)))) (Int32.toNatClampNeg (145 : Int32)) o2) (Int32.toNatClampNeg (146 : Int32)) ((upd (upd (upd s.1.1 (Int32.toNatClampNeg (143 : Int32)) (s.1.1 (Int32.toNatClampNeg (7 : Int32)))) (Int32.toNatClampNeg (144 : Int32)) ((upd s.1.1 (Int32.toNatClampNeg (143 : Int32)) (s.1.1 (Int32.toNatClampNeg (7 : Int32)))) (Int32.toNatClampNeg (8 : Int32)))) (Int32.toNatClampNeg (145 : Int32)) o2) (Int32.toNatClampNeg (11 : Int32)))) (Int32.toNatClampNeg (147 : Int32)) p0) (Int32.toNatClampNeg (19 : Int32)) (((upd (upd (upd (upd (upd s.1.1 (Int32.toNatClampNeg (143 : Int32)) (s.1.1 (Int32.toNatClampNeg (7 : Int32)))) (Int32.toNatClampNeg (144 : Int32)) ((upd s.1.1 (Int32.toNatClampNeg (143 : Int32)) (s.1.1 (Int32.toNatClampNeg (7 : Int32)))) (Int32.toNatClampNeg (8 : Int32)))) (Int32.toNatClampNeg (145 : Int32)) o2) (Int32.toNatClampNeg (146 : Int32)) ((upd (upd (upd s.1.1 (Int32.toNatClampNeg (143 : Int32)) (s.1.1 (Int32.toNatClampNeg (7 : Int32)))) (Int32.toNatClampNeg (144 : Int32)) ((upd s.1.1 (Int32.toNatClampNeg (143 : Int32)) (s.1.1 (Int32.toNatClampNeg (7 : Int32)))) (Int32.toNatClampNeg (8 : Int32)))) (Int32.toNatClampNeg (145 : Int32)) o2) (Int32.toNatClampNeg (11 : Int32)))) (Int32.toNatClampNeg (147 : Int32)) p0) (Int32.toNatClampNeg (19 : Int32))) + (1 : Int32))) (Int32.toNatClampNeg (9 : Int32)) (1 : Int32)), s.1.2.1, s.1.2.2.1, s.1.2.2.2.1, s.1.2.2.2.2.1, s.1.2.2.2.2.2.1, s.1.2.2.2.2.2.2.1, s.1.2.2.2.2.2.2.2.1, s.1.2.2.2.2.2.2.2.2.1, s.1.2.2.2.2.2.2.2.2.2.1, s.1.2.2.2.2.2.2.2.2.2.2.1, s.1.2.2.2.2.2.2.2.2.2.2.2.1, s.1.2.2.2.2.2.2.2.2.2.2.2.2.1, s.1.2.2.2.2.2.2.2.2.2.2.2.2.2)) else (ix (((143 : Int32) + s.2) - (5 : Int32)) 173 (ix ((143 : Int32) + s.2) 173 (K (((upd s.1.1 (Int32.toNatClampNeg ((143 : Int32) + s.2)) (s.1.1 (Int32.toNatClampNeg (((143 : Int32) + s.2) - (5 : Int32))))), s.1.2.1, s.1.2.2.1, s.1.2.2.2.1, s.1.2.2.2.2.1, s.1.2.2.2.2.2.1, s.1.2.2.2.2.2.2.1, s.1.2.2.2.2.2.2.2.1, s.1.2.2.2.2.2.2.2.2.1, s.1.2.2.2.2.2.2.2.2.2.1, s.1.2.2.2.2.2.2.2.2.2.2.1, s.1.2.2.2.2.2.2.2.2.2.2.2.1, s.1.2.2.2.2.2.2.2.2.2.2.2.2.1, s.1.2.2.2.2.2.2.2.2.2.2.2.2.2), (s.2 - (1 : Int32)))))))
def f_X6_halt (N : Nat) (V : Md) (p0 : Int32) : Option (Md) := lp (b_X6_halt_3 N V p0) N (V, (29 : Int32))
abbrev rm_X6_halt : Room := { frames := 2, cells := 0, slots := 0, locals := 43 }
set_option maxRecDepth 100000 in
theorem k_X6_halt : CF yX6_halt cX6_halt 3 (Option.none : Option FieldType) 1 := ⟨mt_715, mp_32, mt_13, mt_716, ⟨rfl, by decide +kernel, by decide +kernel, by decide +kernel⟩⟩
set_option maxHeartbeats 4000000 in
set_option maxRecDepth 100000 in
theorem c_X6_halt {E : Ev} {a : Nat → Nat} {V : Md} {p0 : Int32} {N : Nat} {o : Md} (hf : f_X6_halt N V p0 = some o) : ∀ l, MG l yX6_halt cX6_halt 3 (Option.none : Option FieldType) rm_X6_halt E [.ref (a 0), .int p0] [md E a V] (fun v Y => v = none ∧ Y = [md E a o]) := by
  refine MG.mk (own := RX6) (lv0 := [(0, .ref (a 0)), (1, .int p0)]) (by decide) rfl (Nat.le_of_ble_eq_true rfl) rfl (fun X C K I => ?_)
  have h3 : ∀ (n : Nat) (s : Md × Int32), lp (b_X6_halt_3 N V p0) n s = some o → G E X 3 [md E a s.1] 0 0 [(0, .ref (a 0)), (1, .int p0), (2, .int s.2)] [] 3 := lp_ind (by
    intro K3 hK3 s hf
    unfold b_X6_halt_3 at hf
    refine g_iload_n C dX6_halt_3 rfl 2 rfl ?_
    refine g_iconst (v := (5 : Int32)) C dX6_halt_4 (by decide) ?_
    refine g_icmp_lt (tgt := 36) C dX6_halt_5 (by decide) (fun c1 => ?_) (fun c1 => ?_)
    · have hf := (f_if hf).1 c1
      refine g_aload_n C dX6_halt_36 rfl 0 rfl ?_
      refine g_get (Cl := RX6) (T := TX6) (N := 14) C mi_X6 0 rfl (List.mem_of_getElem? (i := 0) rfl) rfl 0 (by decide) mt_589 rfl rfl dX6_halt_37 ?_
      refine g_sipush (v := (143 : Int32)) C dX6_halt_40 (by decide) ?_
      refine g_aload_n C dX6_halt_43 rfl 0 rfl ?_
      refine g_get (Cl := RX6) (T := TX6) (N := 14) C mi_X6 0 rfl (List.mem_of_getElem? (i := 0) rfl) rfl 0 (by decide) mt_589 rfl rfl dX6_halt_44 ?_
      refine g_bipush (v := (7 : Int32)) C dX6_halt_47 (by decide) ?_
      refine g_iald C 0 rfl (List.mem_of_getElem? (i := 1) rfl) (by show ¬ (_ ∨ _); decide) dX6_halt_49 ?_
      refine g_iast (Y2 := [md E a ((upd s.1.1 (Int32.toNatClampNeg (143 : Int32)) (s.1.1 (Int32.toNatClampNeg (7 : Int32)))), s.1.2.1, s.1.2.2.1, s.1.2.2.2.1, s.1.2.2.2.2.1, s.1.2.2.2.2.2.1, s.1.2.2.2.2.2.2.1, s.1.2.2.2.2.2.2.2.1, s.1.2.2.2.2.2.2.2.2.1, s.1.2.2.2.2.2.2.2.2.2.1, s.1.2.2.2.2.2.2.2.2.2.2.1, s.1.2.2.2.2.2.2.2.2.2.2.2.1, s.1.2.2.2.2.2.2.2.2.2.2.2.2.1, s.1.2.2.2.2.2.2.2.2.2.2.2.2.2)]) C 0 1 rfl rfl (by show ¬ (_ ∨ _); decide) dX6_halt_50 rfl ?_
      refine g_aload_n C dX6_halt_51 rfl 0 rfl ?_
      refine g_get (Cl := RX6) (T := TX6) (N := 14) C mi_X6 0 rfl (List.mem_of_getElem? (i := 0) rfl) rfl 0 (by decide) mt_589 rfl rfl dX6_halt_52 ?_
      refine g_sipush (v := (144 : Int32)) C dX6_halt_55 (by decide) ?_
      refine g_aload_n C dX6_halt_58 rfl 0 rfl ?_
      refine g_get (Cl := RX6) (T := TX6) (N := 14) C mi_X6 0 rfl (List.mem_of_getElem? (i := 0) rfl) rfl 0 (by decide) mt_589 rfl rfl dX6_halt_59 ?_
      refine g_bipush (v := (8 : Int32)) C dX6_halt_62 (by decide) ?_
      refine g_iald C 0 rfl (List.mem_of_getElem? (i := 1) rfl) (by show ¬ (_ ∨ _); decide) dX6_halt_64 ?_
      refine g_iast (Y2 := [md E a ((upd (upd s.1.1 (Int32.toNatClampNeg (143 : Int32)) (s.1.1 (Int32.toNatClampNeg (7 : Int32)))) (Int32.toNatClampNeg (144 : Int32)) ((upd s.1.1 (Int32.toNatClampNeg (143 : Int32)) (s.1.1 (Int32.toNatClampNeg (7 : Int32)))) (Int32.toNatClampNeg (8 : Int32)))), s.1.2.1, s.1.2.2.1, s.1.2.2.2.1, s.1.2.2.2.2.1, s.1.2.2.2.2.2.1, s.1.2.2.2.2.2.2.1, s.1.2.2.2.2.2.2.2.1, s.1.2.2.2.2.2.2.2.2.1, s.1.2.2.2.2.2.2.2.2.2.1, s.1.2.2.2.2.2.2.2.2.2.2.1, s.1.2.2.2.2.2.2.2.2.2.2.2.1, s.1.2.2.2.2.2.2.2.2.2.2.2.2.1, s.1.2.2.2.2.2.2.2.2.2.2.2.2.2)]) C 0 1 rfl rfl (by show ¬ (_ ∨ _); decide) dX6_halt_65 rfl ?_
      refine g_aload_n C dX6_halt_66 rfl 0 rfl ?_
      refine g_get (Cl := RX6) (T := TX6) (N := 14) C mi_X6 0 rfl (List.mem_of_getElem? (i := 0) rfl) rfl 0 (by decide) mt_589 rfl rfl dX6_halt_67 ?_
      refine g_sipush (v := (145 : Int32)) C dX6_halt_70 (by decide) ?_
      refine g_aload_n C dX6_halt_73 rfl 0 rfl ?_
      obtain ⟨o2, h3, hf⟩ := bind_s hf
      refine g_callV (As := []) (rest := [.int (145 : Int32), .ref (a 1)]) C k_X6_loadNow (fun l => c_X6_loadNow (E := E) (a := a) (V := ((upd (upd s.1.1 (Int32.toNatClampNeg (143 : Int32)) (s.1.1 (Int32.toNatClampNeg (7 : Int32)))) (Int32.toNatClampNeg (144 : Int32)) ((upd s.1.1 (Int32.toNatClampNeg (143 : Int32)) (s.1.1 (Int32.toNatClampNeg (7 : Int32)))) (Int32.toNatClampNeg (8 : Int32)))), s.1.2.1, s.1.2.2.1, s.1.2.2.2.1, s.1.2.2.2.2.1, s.1.2.2.2.2.2.1, s.1.2.2.2.2.2.2.1, s.1.2.2.2.2.2.2.2.1, s.1.2.2.2.2.2.2.2.2.1, s.1.2.2.2.2.2.2.2.2.2.1, s.1.2.2.2.2.2.2.2.2.2.2.1, s.1.2.2.2.2.2.2.2.2.2.2.2.1, s.1.2.2.2.2.2.2.2.2.2.2.2.2.1, s.1.2.2.2.2.2.2.2.2.2.2.2.2.2)) h3 l) mt_717 [0] rfl (by decide) ⟨_, _, _, _, List.mem_flatten.mpr ⟨_, List.mem_of_getElem? (i := 0) rfl, List.mem_of_getElem? (i := 0) rfl⟩, rfl⟩ rfl (Nat.le_of_ble_eq_true rfl) ⟨Nat.le_of_ble_eq_true rfl, Nat.le_of_ble_eq_true rfl, Nat.le_of_ble_eq_true rfl, Nat.le_of_ble_eq_true rfl⟩ dX6_halt_74 ?_
      rintro _ _ ⟨rfl, rfl⟩
      show G E X 3 [md E a ((upd (upd s.1.1 (Int32.toNatClampNeg (143 : Int32)) (s.1.1 (Int32.toNatClampNeg (7 : Int32)))) (Int32.toNatClampNeg (144 : Int32)) ((upd s.1.1 (Int32.toNatClampNeg (143 : Int32)) (s.1.1 (Int32.toNatClampNeg (7 : Int32)))) (Int32.toNatClampNeg (8 : Int32)))), s.1.2.1, s.1.2.2.1, s.1.2.2.2.1, s.1.2.2.2.2.1, s.1.2.2.2.2.2.1, s.1.2.2.2.2.2.2.1, s.1.2.2.2.2.2.2.2.1, s.1.2.2.2.2.2.2.2.2.1, s.1.2.2.2.2.2.2.2.2.2.1, s.1.2.2.2.2.2.2.2.2.2.2.1, s.1.2.2.2.2.2.2.2.2.2.2.2.1, s.1.2.2.2.2.2.2.2.2.2.2.2.2.1, s.1.2.2.2.2.2.2.2.2.2.2.2.2.2)] 0 0 [(0, .ref (a 0)), (1, .int p0), (2, .int s.2)] [.int o2, .int (145 : Int32), .ref (a 1)] 77
      refine g_iast (Y2 := [md E a ((upd (upd (upd s.1.1 (Int32.toNatClampNeg (143 : Int32)) (s.1.1 (Int32.toNatClampNeg (7 : Int32)))) (Int32.toNatClampNeg (144 : Int32)) ((upd s.1.1 (Int32.toNatClampNeg (143 : Int32)) (s.1.1 (Int32.toNatClampNeg (7 : Int32)))) (Int32.toNatClampNeg (8 : Int32)))) (Int32.toNatClampNeg (145 : Int32)) o2), s.1.2.1, s.1.2.2.1, s.1.2.2.2.1, s.1.2.2.2.2.1, s.1.2.2.2.2.2.1, s.1.2.2.2.2.2.2.1, s.1.2.2.2.2.2.2.2.1, s.1.2.2.2.2.2.2.2.2.1, s.1.2.2.2.2.2.2.2.2.2.1, s.1.2.2.2.2.2.2.2.2.2.2.1, s.1.2.2.2.2.2.2.2.2.2.2.2.1, s.1.2.2.2.2.2.2.2.2.2.2.2.2.1, s.1.2.2.2.2.2.2.2.2.2.2.2.2.2)]) C 0 1 rfl rfl (by show ¬ (_ ∨ _); decide) dX6_halt_77 rfl ?_
      refine g_aload_n C dX6_halt_78 rfl 0 rfl ?_
      refine g_get (Cl := RX6) (T := TX6) (N := 14) C mi_X6 0 rfl (List.mem_of_getElem? (i := 0) rfl) rfl 0 (by decide) mt_589 rfl rfl dX6_halt_79 ?_
      refine g_sipush (v := (146 : Int32)) C dX6_halt_82 (by decide) ?_
      refine g_aload_n C dX6_halt_85 rfl 0 rfl ?_
      refine g_get (Cl := RX6) (T := TX6) (N := 14) C mi_X6 0 rfl (List.mem_of_getElem? (i := 0) rfl) rfl 0 (by decide) mt_589 rfl rfl dX6_halt_86 ?_
      refine g_bipush (v := (11 : Int32)) C dX6_halt_89 (by decide) ?_
      refine g_iald C 0 rfl (List.mem_of_getElem? (i := 1) rfl) (by show ¬ (_ ∨ _); decide) dX6_halt_91 ?_
      refine g_iast (Y2 := [md E a ((upd (upd (upd (upd s.1.1 (Int32.toNatClampNeg (143 : Int32)) (s.1.1 (Int32.toNatClampNeg (7 : Int32)))) (Int32.toNatClampNeg (144 : Int32)) ((upd s.1.1 (Int32.toNatClampNeg (143 : Int32)) (s.1.1 (Int32.toNatClampNeg (7 : Int32)))) (Int32.toNatClampNeg (8 : Int32)))) (Int32.toNatClampNeg (145 : Int32)) o2) (Int32.toNatClampNeg (146 : Int32)) ((upd (upd (upd s.1.1 (Int32.toNatClampNeg (143 : Int32)) (s.1.1 (Int32.toNatClampNeg (7 : Int32)))) (Int32.toNatClampNeg (144 : Int32)) ((upd s.1.1 (Int32.toNatClampNeg (143 : Int32)) (s.1.1 (Int32.toNatClampNeg (7 : Int32)))) (Int32.toNatClampNeg (8 : Int32)))) (Int32.toNatClampNeg (145 : Int32)) o2) (Int32.toNatClampNeg (11 : Int32)))), s.1.2.1, s.1.2.2.1, s.1.2.2.2.1, s.1.2.2.2.2.1, s.1.2.2.2.2.2.1, s.1.2.2.2.2.2.2.1, s.1.2.2.2.2.2.2.2.1, s.1.2.2.2.2.2.2.2.2.1, s.1.2.2.2.2.2.2.2.2.2.1, s.1.2.2.2.2.2.2.2.2.2.2.1, s.1.2.2.2.2.2.2.2.2.2.2.2.1, s.1.2.2.2.2.2.2.2.2.2.2.2.2.1, s.1.2.2.2.2.2.2.2.2.2.2.2.2.2)]) C 0 1 rfl rfl (by show ¬ (_ ∨ _); decide) dX6_halt_92 rfl ?_
      refine g_aload_n C dX6_halt_93 rfl 0 rfl ?_
      refine g_get (Cl := RX6) (T := TX6) (N := 14) C mi_X6 0 rfl (List.mem_of_getElem? (i := 0) rfl) rfl 0 (by decide) mt_589 rfl rfl dX6_halt_94 ?_
      refine g_sipush (v := (147 : Int32)) C dX6_halt_97 (by decide) ?_
      refine g_iload_n C dX6_halt_100 rfl 1 rfl ?_
      refine g_iast (Y2 := [md E a ((upd (upd (upd (upd (upd s.1.1 (Int32.toNatClampNeg (143 : Int32)) (s.1.1 (Int32.toNatClampNeg (7 : Int32)))) (Int32.toNatClampNeg (144 : Int32)) ((upd s.1.1 (Int32.toNatClampNeg (143 : Int32)) (s.1.1 (Int32.toNatClampNeg (7 : Int32)))) (Int32.toNatClampNeg (8 : Int32)))) (Int32.toNatClampNeg (145 : Int32)) o2) (Int32.toNatClampNeg (146 : Int32)) ((upd (upd (upd s.1.1 (Int32.toNatClampNeg (143 : Int32)) (s.1.1 (Int32.toNatClampNeg (7 : Int32)))) (Int32.toNatClampNeg (144 : Int32)) ((upd s.1.1 (Int32.toNatClampNeg (143 : Int32)) (s.1.1 (Int32.toNatClampNeg (7 : Int32)))) (Int32.toNatClampNeg (8 : Int32)))) (Int32.toNatClampNeg (145 : Int32)) o2) (Int32.toNatClampNeg (11 : Int32)))) (Int32.toNatClampNeg (147 : Int32)) p0), s.1.2.1, s.1.2.2.1, s.1.2.2.2.1, s.1.2.2.2.2.1, s.1.2.2.2.2.2.1, s.1.2.2.2.2.2.2.1, s.1.2.2.2.2.2.2.2.1, s.1.2.2.2.2.2.2.2.2.1, s.1.2.2.2.2.2.2.2.2.2.1, s.1.2.2.2.2.2.2.2.2.2.2.1, s.1.2.2.2.2.2.2.2.2.2.2.2.1, s.1.2.2.2.2.2.2.2.2.2.2.2.2.1, s.1.2.2.2.2.2.2.2.2.2.2.2.2.2)]) C 0 1 rfl rfl (by show ¬ (_ ∨ _); decide) dX6_halt_101 rfl ?_
      refine g_aload_n C dX6_halt_102 rfl 0 rfl ?_
      refine g_get (Cl := RX6) (T := TX6) (N := 14) C mi_X6 0 rfl (List.mem_of_getElem? (i := 0) rfl) rfl 0 (by decide) mt_589 rfl rfl dX6_halt_103 ?_
      refine g_bipush (v := (19 : Int32)) C dX6_halt_106 (by decide) ?_
      refine g_dup2 C dX6_halt_108 rfl rfl ?_
      refine g_iald C 0 rfl (List.mem_of_getElem? (i := 1) rfl) (by show ¬ (_ ∨ _); decide) dX6_halt_109 ?_
      refine g_iconst (v := (1 : Int32)) C dX6_halt_110 (by decide) ?_
      refine g_iadd C dX6_halt_111 ?_
      refine g_iast (Y2 := [md E a ((upd (upd (upd (upd (upd (upd s.1.1 (Int32.toNatClampNeg (143 : Int32)) (s.1.1 (Int32.toNatClampNeg (7 : Int32)))) (Int32.toNatClampNeg (144 : Int32)) ((upd s.1.1 (Int32.toNatClampNeg (143 : Int32)) (s.1.1 (Int32.toNatClampNeg (7 : Int32)))) (Int32.toNatClampNeg (8 : Int32)))) (Int32.toNatClampNeg (145 : Int32)) o2) (Int32.toNatClampNeg (146 : Int32)) ((upd (upd (upd s.1.1 (Int32.toNatClampNeg (143 : Int32)) (s.1.1 (Int32.toNatClampNeg (7 : Int32)))) (Int32.toNatClampNeg (144 : Int32)) ((upd s.1.1 (Int32.toNatClampNeg (143 : Int32)) (s.1.1 (Int32.toNatClampNeg (7 : Int32)))) (Int32.toNatClampNeg (8 : Int32)))) (Int32.toNatClampNeg (145 : Int32)) o2) (Int32.toNatClampNeg (11 : Int32)))) (Int32.toNatClampNeg (147 : Int32)) p0) (Int32.toNatClampNeg (19 : Int32)) (((upd (upd (upd (upd (upd s.1.1 (Int32.toNatClampNeg (143 : Int32)) (s.1.1 (Int32.toNatClampNeg (7 : Int32)))) (Int32.toNatClampNeg (144 : Int32)) ((upd s.1.1 (Int32.toNatClampNeg (143 : Int32)) (s.1.1 (Int32.toNatClampNeg (7 : Int32)))) (Int32.toNatClampNeg (8 : Int32)))) (Int32.toNatClampNeg (145 : Int32)) o2) (Int32.toNatClampNeg (146 : Int32)) ((upd (upd (upd s.1.1 (Int32.toNatClampNeg (143 : Int32)) (s.1.1 (Int32.toNatClampNeg (7 : Int32)))) (Int32.toNatClampNeg (144 : Int32)) ((upd s.1.1 (Int32.toNatClampNeg (143 : Int32)) (s.1.1 (Int32.toNatClampNeg (7 : Int32)))) (Int32.toNatClampNeg (8 : Int32)))) (Int32.toNatClampNeg (145 : Int32)) o2) (Int32.toNatClampNeg (11 : Int32)))) (Int32.toNatClampNeg (147 : Int32)) p0) (Int32.toNatClampNeg (19 : Int32))) + (1 : Int32))), s.1.2.1, s.1.2.2.1, s.1.2.2.2.1, s.1.2.2.2.2.1, s.1.2.2.2.2.2.1, s.1.2.2.2.2.2.2.1, s.1.2.2.2.2.2.2.2.1, s.1.2.2.2.2.2.2.2.2.1, s.1.2.2.2.2.2.2.2.2.2.1, s.1.2.2.2.2.2.2.2.2.2.2.1, s.1.2.2.2.2.2.2.2.2.2.2.2.1, s.1.2.2.2.2.2.2.2.2.2.2.2.2.1, s.1.2.2.2.2.2.2.2.2.2.2.2.2.2)]) C 0 1 rfl rfl (by show ¬ (_ ∨ _); decide) dX6_halt_112 rfl ?_
      refine g_aload_n C dX6_halt_113 rfl 0 rfl ?_
      refine g_get (Cl := RX6) (T := TX6) (N := 14) C mi_X6 0 rfl (List.mem_of_getElem? (i := 0) rfl) rfl 0 (by decide) mt_589 rfl rfl dX6_halt_114 ?_
      refine g_bipush (v := (9 : Int32)) C dX6_halt_117 (by decide) ?_
      refine g_iconst (v := (1 : Int32)) C dX6_halt_119 (by decide) ?_
      refine g_iast (Y2 := [md E a ((upd (upd (upd (upd (upd (upd (upd s.1.1 (Int32.toNatClampNeg (143 : Int32)) (s.1.1 (Int32.toNatClampNeg (7 : Int32)))) (Int32.toNatClampNeg (144 : Int32)) ((upd s.1.1 (Int32.toNatClampNeg (143 : Int32)) (s.1.1 (Int32.toNatClampNeg (7 : Int32)))) (Int32.toNatClampNeg (8 : Int32)))) (Int32.toNatClampNeg (145 : Int32)) o2) (Int32.toNatClampNeg (146 : Int32)) ((upd (upd (upd s.1.1 (Int32.toNatClampNeg (143 : Int32)) (s.1.1 (Int32.toNatClampNeg (7 : Int32)))) (Int32.toNatClampNeg (144 : Int32)) ((upd s.1.1 (Int32.toNatClampNeg (143 : Int32)) (s.1.1 (Int32.toNatClampNeg (7 : Int32)))) (Int32.toNatClampNeg (8 : Int32)))) (Int32.toNatClampNeg (145 : Int32)) o2) (Int32.toNatClampNeg (11 : Int32)))) (Int32.toNatClampNeg (147 : Int32)) p0) (Int32.toNatClampNeg (19 : Int32)) (((upd (upd (upd (upd (upd s.1.1 (Int32.toNatClampNeg (143 : Int32)) (s.1.1 (Int32.toNatClampNeg (7 : Int32)))) (Int32.toNatClampNeg (144 : Int32)) ((upd s.1.1 (Int32.toNatClampNeg (143 : Int32)) (s.1.1 (Int32.toNatClampNeg (7 : Int32)))) (Int32.toNatClampNeg (8 : Int32)))) (Int32.toNatClampNeg (145 : Int32)) o2) (Int32.toNatClampNeg (146 : Int32)) ((upd (upd (upd s.1.1 (Int32.toNatClampNeg (143 : Int32)) (s.1.1 (Int32.toNatClampNeg (7 : Int32)))) (Int32.toNatClampNeg (144 : Int32)) ((upd s.1.1 (Int32.toNatClampNeg (143 : Int32)) (s.1.1 (Int32.toNatClampNeg (7 : Int32)))) (Int32.toNatClampNeg (8 : Int32)))) (Int32.toNatClampNeg (145 : Int32)) o2) (Int32.toNatClampNeg (11 : Int32)))) (Int32.toNatClampNeg (147 : Int32)) p0) (Int32.toNatClampNeg (19 : Int32))) + (1 : Int32))) (Int32.toNatClampNeg (9 : Int32)) (1 : Int32)), s.1.2.1, s.1.2.2.1, s.1.2.2.2.1, s.1.2.2.2.2.1, s.1.2.2.2.2.2.1, s.1.2.2.2.2.2.2.1, s.1.2.2.2.2.2.2.2.1, s.1.2.2.2.2.2.2.2.2.1, s.1.2.2.2.2.2.2.2.2.2.1, s.1.2.2.2.2.2.2.2.2.2.2.1, s.1.2.2.2.2.2.2.2.2.2.2.2.1, s.1.2.2.2.2.2.2.2.2.2.2.2.2.1, s.1.2.2.2.2.2.2.2.2.2.2.2.2.2)]) C 0 1 rfl rfl (by show ¬ (_ ∨ _); decide) dX6_halt_120 rfl ?_
      obtain rfl := Option.some.inj hf
      exact g_ret C K dX6_halt_121 (Nat.le_of_ble_eq_true rfl) (Nat.le_of_ble_eq_true rfl) ⟨rfl, rfl⟩
    · have hf := (f_if hf).2 c1
      refine g_aload_n C dX6_halt_8 rfl 0 rfl ?_
      refine g_get (Cl := RX6) (T := TX6) (N := 14) C mi_X6 0 rfl (List.mem_of_getElem? (i := 0) rfl) rfl 0 (by decide) mt_589 rfl rfl dX6_halt_9 ?_
      refine g_sipush (v := (143 : Int32)) C dX6_halt_12 (by decide) ?_
      refine g_iload_n C dX6_halt_15 rfl 2 rfl ?_
      refine g_iadd C dX6_halt_16 ?_
      refine g_aload_n C dX6_halt_17 rfl 0 rfl ?_
      refine g_get (Cl := RX6) (T := TX6) (N := 14) C mi_X6 0 rfl (List.mem_of_getElem? (i := 0) rfl) rfl 0 (by decide) mt_589 rfl rfl dX6_halt_18 ?_
      refine g_sipush (v := (143 : Int32)) C dX6_halt_21 (by decide) ?_
      refine g_iload_n C dX6_halt_24 rfl 2 rfl ?_
      refine g_iadd C dX6_halt_25 ?_
      refine g_iconst (v := (5 : Int32)) C dX6_halt_26 (by decide) ?_
      refine g_isub C dX6_halt_27 ?_
      obtain ⟨i4, hf⟩ := ix_s hf
      refine g_iald C 0 rfl (List.mem_of_getElem? (i := 1) rfl) i4 dX6_halt_28 ?_
      obtain ⟨i5, hf⟩ := ix_s hf
      refine g_iast (Y2 := [md E a ((upd s.1.1 (Int32.toNatClampNeg ((143 : Int32) + s.2)) (s.1.1 (Int32.toNatClampNeg (((143 : Int32) + s.2) - (5 : Int32))))), s.1.2.1, s.1.2.2.1, s.1.2.2.2.1, s.1.2.2.2.2.1, s.1.2.2.2.2.2.1, s.1.2.2.2.2.2.2.1, s.1.2.2.2.2.2.2.2.1, s.1.2.2.2.2.2.2.2.2.1, s.1.2.2.2.2.2.2.2.2.2.1, s.1.2.2.2.2.2.2.2.2.2.2.1, s.1.2.2.2.2.2.2.2.2.2.2.2.1, s.1.2.2.2.2.2.2.2.2.2.2.2.2.1, s.1.2.2.2.2.2.2.2.2.2.2.2.2.2)]) C 0 1 rfl rfl i5 dX6_halt_29 rfl ?_
      refine g_iinc (v := (s.2 - (1 : Int32))) (lv2 := [(2, .int (s.2 - (1 : Int32))), (0, .ref (a 0)), (1, .int p0)]) C dX6_halt_30 2 rfl dec1 (by decide) rfl ?_
      refine g_goto (tgt := 3) C dX6_halt_33 (by decide) ?_
      refine g_sub (lv2 := [(0, .ref (a 0)), (1, .int p0), (2, .int (s.2 - (1 : Int32)))]) [1, 2, 0] rfl ?_
      exact hK3 (((upd s.1.1 (Int32.toNatClampNeg ((143 : Int32) + s.2)) (s.1.1 (Int32.toNatClampNeg (((143 : Int32) + s.2) - (5 : Int32))))), s.1.2.1, s.1.2.2.1, s.1.2.2.2.1, s.1.2.2.2.2.1, s.1.2.2.2.2.2.1, s.1.2.2.2.2.2.2.1, s.1.2.2.2.2.2.2.2.1, s.1.2.2.2.2.2.2.2.2.1, s.1.2.2.2.2.2.2.2.2.2.1, s.1.2.2.2.2.2.2.2.2.2.2.1, s.1.2.2.2.2.2.2.2.2.2.2.2.1, s.1.2.2.2.2.2.2.2.2.2.2.2.2.1, s.1.2.2.2.2.2.2.2.2.2.2.2.2.2), (s.2 - (1 : Int32))) hf)
  unfold f_X6_halt at hf
  refine g_bipush (v := (29 : Int32)) C dX6_halt_0 (by decide) ?_
  refine g_istore_n (lv2 := [(2, .int (29 : Int32)), (0, .ref (a 0)), (1, .int p0)]) C dX6_halt_2 rfl (by decide) rfl ?_
  refine g_sub (lv2 := [(0, .ref (a 0)), (1, .int p0), (2, .int (29 : Int32))]) [1, 2, 0] rfl ?_
  exact h3 N (V, (29 : Int32)) hf
def b_X6_disagrees_29 (V : Md) (p0 : Int32) (s : Int32) : Option (Int32) := (zb s (some s))
def b_X6_disagrees_24 (V : Md) (p0 : Int32) (s : Unit) : Option (Int32) := b_X6_disagrees_29 V p0 (1 : Int32)
def f_X6_disagrees (V : Md) (p0 : Int32) : Option (Int32) := (if (((V.1 (Int32.toNatClampNeg (11 : Int32))) >>> (((2 : Int32) * p0) &&& 31)) &&& (3 : Int32)) = (1 : Int32) then b_X6_disagrees_24 V p0 () else (if (((V.1 (Int32.toNatClampNeg (11 : Int32))) >>> (((2 : Int32) * p0) &&& 31)) &&& (3 : Int32)) = (2 : Int32) then b_X6_disagrees_24 V p0 () else b_X6_disagrees_29 V p0 (0 : Int32)))
abbrev rm_X6_disagrees : Room := { frames := 0, cells := 0, slots := 0, locals := 0 }
set_option maxRecDepth 100000 in
theorem k_X6_disagrees : CF yX6_disagrees cX6_disagrees 3 (some .boolean) 1 := ⟨mt_748, mp_38, mt_13, mt_749, ⟨rfl, by decide +kernel, by decide +kernel, by decide +kernel⟩⟩
set_option maxHeartbeats 4000000 in
set_option maxRecDepth 100000 in
theorem c_X6_disagrees {E : Ev} {a : Nat → Nat} {V : Md} {p0 : Int32} {o : Int32} (hf : f_X6_disagrees V p0 = some o) : ∀ l, MG l yX6_disagrees cX6_disagrees 3 (some .boolean) rm_X6_disagrees E [.ref (a 0), .int p0] [md E a V] (fun v Y => v = some (.int o) ∧ Y = [md E a V]) := by
  refine MG.mk (own := RX6) (lv0 := [(0, .ref (a 0)), (1, .int p0)]) (by decide) rfl (Nat.le_of_ble_eq_true rfl) rfl (fun X C K I => ?_)
  have h29 : ∀ s : Int32, b_X6_disagrees_29 V p0 s = some o → G E X 3 [md E a V] 0 0 [] [.int s] 29 := by
    intro s hf
    unfold b_X6_disagrees_29 at hf
    obtain ⟨z1, hf⟩ := zb_s hf
    obtain rfl := Option.some.inj hf
    exact g_zret C K z1 dX6_disagrees_29 (Nat.le_of_ble_eq_true rfl) (Nat.le_of_ble_eq_true rfl) ⟨rfl, rfl⟩
  have h24 : ∀ s : Unit, b_X6_disagrees_24 V p0 s = some o → G E X 3 [md E a V] 0 0 [] [] 24 := by
    intro s hf
    unfold b_X6_disagrees_24 at hf
    refine g_iconst (v := (1 : Int32)) C dX6_disagrees_24 (by decide) ?_
    refine g_goto (tgt := 29) C dX6_disagrees_25 (by decide) ?_
    exact h29 (1 : Int32) hf
  unfold f_X6_disagrees at hf
  refine g_aload_n C dX6_disagrees_0 rfl 0 rfl ?_
  refine g_get (Cl := RX6) (T := TX6) (N := 14) C mi_X6 0 rfl (List.mem_of_getElem? (i := 0) rfl) rfl 0 (by decide) mt_589 rfl rfl dX6_disagrees_1 ?_
  refine g_bipush (v := (11 : Int32)) C dX6_disagrees_4 (by decide) ?_
  refine g_iald C 0 rfl (List.mem_of_getElem? (i := 1) rfl) (by show ¬ (_ ∨ _); decide) dX6_disagrees_6 ?_
  refine g_iconst (v := (2 : Int32)) C dX6_disagrees_7 (by decide) ?_
  refine g_iload_n C dX6_disagrees_8 rfl 1 rfl ?_
  refine g_imul C dX6_disagrees_9 ?_
  refine g_ishr C dX6_disagrees_10 ?_
  refine g_iconst (v := (3 : Int32)) C dX6_disagrees_11 (by decide) ?_
  refine g_iand C dX6_disagrees_12 ?_
  refine g_istore_n (lv2 := [(2, .int (((V.1 (Int32.toNatClampNeg (11 : Int32))) >>> (((2 : Int32) * p0) &&& 31)) &&& (3 : Int32))), (0, .ref (a 0)), (1, .int p0)]) C dX6_disagrees_13 rfl (by decide) rfl ?_
  refine g_iload_n C dX6_disagrees_14 rfl 0 rfl ?_
  refine g_iconst (v := (1 : Int32)) C dX6_disagrees_15 (by decide) ?_
  refine g_icmp_eq (tgt := 24) C dX6_disagrees_16 (by decide) (fun c2 => ?_) (fun c2 => ?_)
  · have hf := (f_if hf).1 c2
    refine g_sub (lv2 := []) [] rfl ?_
    exact h24 () hf
  · have hf := (f_if hf).2 c2
    refine g_iload_n C dX6_disagrees_19 rfl 0 rfl ?_
    refine g_iconst (v := (2 : Int32)) C dX6_disagrees_20 (by decide) ?_
    refine g_icmp_ne (tgt := 28) C dX6_disagrees_21 (by decide) (fun c3 => ?_) (fun c3 => ?_)
    · have hf := (f_if hf).2 c3
      refine g_iconst (v := (0 : Int32)) C dX6_disagrees_28 (by decide) ?_
      refine g_sub (lv2 := []) [] rfl ?_
      exact h29 (0 : Int32) hf
    · have hf := (f_if hf).1 c3
      refine g_sub (lv2 := []) [] rfl ?_
      exact h24 () hf
def b_X6_isSlow_68 (N : Nat) (V : Md) (K : (Int32 × Int32) → Option (Int32)) (s : Int32 × Int32) : Option (Int32) := K (s.2, (s.1 + (1 : Int32)))
def b_X6_isSlow_63 (N : Nat) (V : Md) (K : (Int32 × Int32) → Option (Int32)) (s : Int32) : Option (Int32) := b_X6_isSlow_68 N V K (s, (1 : Int32))
def b_X6_isSlow_36 (N : Nat) (V : Md) (K : (Int32 × Int32) → Option (Int32)) (s : Int32 × Int32) : Option (Int32) := (if (4 : Int32) ≤ s.2 then (zb s.1 (some s.1)) else (if s.1 = 0 then (ix ((12 : Int32) + s.2) 173 (if (V.1 (Int32.toNatClampNeg ((12 : Int32) + s.2))) ≤ (V.1 (Int32.toNatClampNeg (4 : Int32))) then b_X6_isSlow_68 N V K (s.2, (0 : Int32)) else b_X6_isSlow_63 N V K s.2)) else b_X6_isSlow_63 N V K s.2))
def b_X6_isSlow_33 (N : Nat) (V : Md) (s : Int32) : Option (Int32) := lp (b_X6_isSlow_36 N V) N (s, (0 : Int32))
def b_X6_isSlow_32 (N : Nat) (V : Md) (s : Unit) : Option (Int32) := b_X6_isSlow_33 N V (0 : Int32)
def f_X6_isSlow (N : Nat) (V : Md) : Option (Int32) := (if (V.1 (Int32.toNatClampNeg (10 : Int32))) = 0 then (if ((V.1 (Int32.toNatClampNeg (16 : Int32))) + (1 : Int32)) ≤ (V.1 (Int32.toNatClampNeg (3 : Int32))) then b_X6_isSlow_32 N V () else b_X6_isSlow_33 N V (1 : Int32)) else b_X6_isSlow_32 N V ())
abbrev rm_X6_isSlow : Room := { frames := 0, cells := 0, slots := 0, locals := 0 }
set_option maxRecDepth 100000 in
theorem k_X6_isSlow : CF yX6_isSlow cX6_isSlow 3 (some .boolean) 0 := ⟨mt_756, mp_40, mt_13, mt_757, ⟨rfl, by decide +kernel, by decide +kernel, by decide +kernel⟩⟩
set_option maxHeartbeats 4000000 in
set_option maxRecDepth 100000 in
theorem c_X6_isSlow {E : Ev} {a : Nat → Nat} {V : Md} {N : Nat} {o : Int32} (hf : f_X6_isSlow N V = some o) : ∀ l, MG l yX6_isSlow cX6_isSlow 3 (some .boolean) rm_X6_isSlow E [.ref (a 0)] [md E a V] (fun v Y => v = some (.int o) ∧ Y = [md E a V]) := by
  refine MG.mk (own := RX6) (lv0 := [(0, .ref (a 0))]) (by decide) rfl (Nat.le_of_ble_eq_true rfl) rfl (fun X C K I => ?_)
  have h68 : ∀ (K : (Int32 × Int32) → Option (Int32)), (∀ s : Int32 × Int32, K s = some o → G E X 3 [md E a V] 0 0 [(0, .ref (a 0)), (1, .int s.1), (2, .int s.2)] [] 36) → ∀ s : Int32 × Int32, b_X6_isSlow_68 N V K s = some o → G E X 3 [md E a V] 0 0 [(0, .ref (a 0)), (2, .int s.1)] [.int s.2] 68 := by
    intro K36 hK36 s hf
    unfold b_X6_isSlow_68 at hf
    refine g_istore_n (lv2 := [(1, .int s.2), (0, .ref (a 0)), (2, .int s.1)]) C dX6_isSlow_68 rfl (by decide) rfl ?_
    refine g_iinc (v := (s.1 + (1 : Int32))) (lv2 := [(2, .int (s.1 + (1 : Int32))), (1, .int s.2), (0, .ref (a 0))]) C dX6_isSlow_69 2 rfl (ii (by decide)) (by decide) rfl ?_
    refine g_goto (tgt := 36) C dX6_isSlow_72 (by decide) ?_
    refine g_sub (lv2 := [(0, .ref (a 0)), (1, .int s.2), (2, .int (s.1 + (1 : Int32)))]) [2, 1, 0] rfl ?_
    exact hK36 (s.2, (s.1 + (1 : Int32))) hf
  have h63 : ∀ (K : (Int32 × Int32) → Option (Int32)), (∀ s : Int32 × Int32, K s = some o → G E X 3 [md E a V] 0 0 [(0, .ref (a 0)), (1, .int s.1), (2, .int s.2)] [] 36) → ∀ s : Int32, b_X6_isSlow_63 N V K s = some o → G E X 3 [md E a V] 0 0 [(0, .ref (a 0)), (2, .int s)] [] 63 := by
    intro K36 hK36 s hf
    unfold b_X6_isSlow_63 at hf
    refine g_iconst (v := (1 : Int32)) C dX6_isSlow_63 (by decide) ?_
    refine g_goto (tgt := 68) C dX6_isSlow_64 (by decide) ?_
    exact h68 _ hK36 (s, (1 : Int32)) hf
  have h36 : ∀ (n : Nat) (s : Int32 × Int32), lp (b_X6_isSlow_36 N V) n s = some o → G E X 3 [md E a V] 0 0 [(0, .ref (a 0)), (1, .int s.1), (2, .int s.2)] [] 36 := lp_ind (by
    intro K36 hK36 s hf
    unfold b_X6_isSlow_36 at hf
    refine g_iload_n C dX6_isSlow_36 rfl 2 rfl ?_
    refine g_iconst (v := (4 : Int32)) C dX6_isSlow_37 (by decide) ?_
    refine g_icmp_ge (tgt := 75) C dX6_isSlow_38 (by decide) (fun c1 => ?_) (fun c1 => ?_)
    · have hf := (f_if hf).1 c1
      refine g_iload_n C dX6_isSlow_75 rfl 1 rfl ?_
      obtain ⟨z2, hf⟩ := zb_s hf
      obtain rfl := Option.some.inj hf
      exact g_zret C K z2 dX6_isSlow_76 (Nat.le_of_ble_eq_true rfl) (Nat.le_of_ble_eq_true rfl) ⟨rfl, rfl⟩
    · have hf := (f_if hf).2 c1
      refine g_iload_n C dX6_isSlow_41 rfl 1 rfl ?_
      refine g_if_ne (tgt := 63) C dX6_isSlow_42 (by decide) (fun c3 => ?_) (fun c3 => ?_)
      · have hf := (f_if hf).2 c3
        refine g_sub (lv2 := [(0, .ref (a 0)), (2, .int s.2)]) [0, 2] rfl ?_
        exact h63 _ hK36 s.2 hf
      · have hf := (f_if hf).1 c3
        refine g_aload_n C dX6_isSlow_45 rfl 0 rfl ?_
        refine g_get (Cl := RX6) (T := TX6) (N := 14) C mi_X6 0 rfl (List.mem_of_getElem? (i := 0) rfl) rfl 0 (by decide) mt_589 rfl rfl dX6_isSlow_46 ?_
        refine g_bipush (v := (12 : Int32)) C dX6_isSlow_49 (by decide) ?_
        refine g_iload_n C dX6_isSlow_51 rfl 2 rfl ?_
        refine g_iadd C dX6_isSlow_52 ?_
        obtain ⟨i4, hf⟩ := ix_s hf
        refine g_iald C 0 rfl (List.mem_of_getElem? (i := 1) rfl) i4 dX6_isSlow_53 ?_
        refine g_aload_n C dX6_isSlow_54 rfl 0 rfl ?_
        refine g_get (Cl := RX6) (T := TX6) (N := 14) C mi_X6 0 rfl (List.mem_of_getElem? (i := 0) rfl) rfl 0 (by decide) mt_589 rfl rfl dX6_isSlow_55 ?_
        refine g_iconst (v := (4 : Int32)) C dX6_isSlow_58 (by decide) ?_
        refine g_iald C 0 rfl (List.mem_of_getElem? (i := 1) rfl) (by show ¬ (_ ∨ _); decide) dX6_isSlow_59 ?_
        refine g_icmp_le (tgt := 67) C dX6_isSlow_60 (by decide) (fun c5 => ?_) (fun c5 => ?_)
        · have hf := (f_if hf).1 c5
          refine g_iconst (v := (0 : Int32)) C dX6_isSlow_67 (by decide) ?_
          refine g_sub (lv2 := [(0, .ref (a 0)), (2, .int s.2)]) [0, 2] rfl ?_
          exact h68 _ hK36 (s.2, (0 : Int32)) hf
        · have hf := (f_if hf).2 c5
          refine g_sub (lv2 := [(0, .ref (a 0)), (2, .int s.2)]) [0, 2] rfl ?_
          exact h63 _ hK36 s.2 hf)
  have h33 : ∀ s : Int32, b_X6_isSlow_33 N V s = some o → G E X 3 [md E a V] 0 0 [(0, .ref (a 0))] [.int s] 33 := by
    intro s hf
    unfold b_X6_isSlow_33 at hf
    refine g_istore_n (lv2 := [(1, .int s), (0, .ref (a 0))]) C dX6_isSlow_33 rfl (by decide) rfl ?_
    refine g_iconst (v := (0 : Int32)) C dX6_isSlow_34 (by decide) ?_
    refine g_istore_n (lv2 := [(2, .int (0 : Int32)), (1, .int s), (0, .ref (a 0))]) C dX6_isSlow_35 rfl (by decide) rfl ?_
    refine g_sub (lv2 := [(0, .ref (a 0)), (1, .int s), (2, .int (0 : Int32))]) [2, 1, 0] rfl ?_
    exact h36 N (s, (0 : Int32)) hf
  have h32 : ∀ s : Unit, b_X6_isSlow_32 N V s = some o → G E X 3 [md E a V] 0 0 [(0, .ref (a 0))] [] 32 := by
    intro s hf
    unfold b_X6_isSlow_32 at hf
    refine g_iconst (v := (0 : Int32)) C dX6_isSlow_32 (by decide) ?_
    exact h33 (0 : Int32) hf
  unfold f_X6_isSlow at hf
  refine g_aload_n C dX6_isSlow_0 rfl 0 rfl ?_
  refine g_get (Cl := RX6) (T := TX6) (N := 14) C mi_X6 0 rfl (List.mem_of_getElem? (i := 0) rfl) rfl 0 (by decide) mt_589 rfl rfl dX6_isSlow_1 ?_
  refine g_bipush (v := (10 : Int32)) C dX6_isSlow_4 (by decide) ?_
  refine g_iald C 0 rfl (List.mem_of_getElem? (i := 1) rfl) (by show ¬ (_ ∨ _); decide) dX6_isSlow_6 ?_
  refine g_if_ne (tgt := 32) C dX6_isSlow_7 (by decide) (fun c6 => ?_) (fun c6 => ?_)
  · have hf := (f_if hf).2 c6
    exact h32 () hf
  · have hf := (f_if hf).1 c6
    refine g_aload_n C dX6_isSlow_10 rfl 0 rfl ?_
    refine g_get (Cl := RX6) (T := TX6) (N := 14) C mi_X6 0 rfl (List.mem_of_getElem? (i := 0) rfl) rfl 0 (by decide) mt_589 rfl rfl dX6_isSlow_11 ?_
    refine g_bipush (v := (16 : Int32)) C dX6_isSlow_14 (by decide) ?_
    refine g_iald C 0 rfl (List.mem_of_getElem? (i := 1) rfl) (by show ¬ (_ ∨ _); decide) dX6_isSlow_16 ?_
    refine g_iconst (v := (1 : Int32)) C dX6_isSlow_17 (by decide) ?_
    refine g_iadd C dX6_isSlow_18 ?_
    refine g_aload_n C dX6_isSlow_19 rfl 0 rfl ?_
    refine g_get (Cl := RX6) (T := TX6) (N := 14) C mi_X6 0 rfl (List.mem_of_getElem? (i := 0) rfl) rfl 0 (by decide) mt_589 rfl rfl dX6_isSlow_20 ?_
    refine g_iconst (v := (3 : Int32)) C dX6_isSlow_23 (by decide) ?_
    refine g_iald C 0 rfl (List.mem_of_getElem? (i := 1) rfl) (by show ¬ (_ ∨ _); decide) dX6_isSlow_24 ?_
    refine g_icmp_le (tgt := 32) C dX6_isSlow_25 (by decide) (fun c7 => ?_) (fun c7 => ?_)
    · have hf := (f_if hf).1 c7
      exact h32 () hf
    · have hf := (f_if hf).2 c7
      refine g_iconst (v := (1 : Int32)) C dX6_isSlow_28 (by decide) ?_
      refine g_goto (tgt := 33) C dX6_isSlow_29 (by decide) ?_
      exact h33 (1 : Int32) hf
def b_X6_wanted_58 (N : Nat) (V : Md) (s : Int32) : Option (Int32) := some s
def b_X6_wanted_48 (N : Nat) (V : Md) (s : Unit) : Option (Int32) := b_X6_wanted_58 N V (V.1 (Int32.toNatClampNeg (1 : Int32)))
def f_X6_wanted (N : Nat) (V : Md) : Option (Int32) := (if (V.1 (Int32.toNatClampNeg (9 : Int32))) = 0 then ((f_X6_loadNow N V).bind fun o2 => (nz (V.1 (Int32.toNatClampNeg (5 : Int32))) ((f_X6_isSlow N V).bind fun o5 => (if o5 = 0 then (if (V.1 (Int32.toNatClampNeg (1 : Int32))) ≤ ((V.1 (Int32.toNatClampNeg (0 : Int32))) - (o2 / (V.1 (Int32.toNatClampNeg (5 : Int32))))) then b_X6_wanted_58 N V ((V.1 (Int32.toNatClampNeg (0 : Int32))) - (o2 / (V.1 (Int32.toNatClampNeg (5 : Int32))))) else b_X6_wanted_48 N V ()) else b_X6_wanted_48 N V ())))) else some (0 : Int32))
abbrev rm_X6_wanted : Room := { frames := 2, cells := 0, slots := 0, locals := 43 }
set_option maxRecDepth 100000 in
theorem k_X6_wanted : CF yX6_wanted cX6_wanted 2 (some .int) 0 := ⟨mt_752, mp_39, mt_13, mt_753, ⟨rfl, by decide +kernel, by decide +kernel, by decide +kernel⟩⟩
set_option maxHeartbeats 4000000 in
set_option maxRecDepth 100000 in
theorem c_X6_wanted {E : Ev} {a : Nat → Nat} {V : Md} {N : Nat} {o : Int32} (hf : f_X6_wanted N V = some o) : ∀ l, MG l yX6_wanted cX6_wanted 2 (some .int) rm_X6_wanted E [.ref (a 0)] [md E a V] (fun v Y => v = some (.int o) ∧ Y = [md E a V]) := by
  refine MG.mk (own := RX6) (lv0 := [(0, .ref (a 0))]) (by decide) rfl (Nat.le_of_ble_eq_true rfl) rfl (fun X C K I => ?_)
  have h58 : ∀ s : Int32, b_X6_wanted_58 N V s = some o → G E X 2 [md E a V] 0 0 [] [.int s] 58 := by
    intro s hf
    unfold b_X6_wanted_58 at hf
    obtain rfl := Option.some.inj hf
    exact g_iret C K dX6_wanted_58 (Nat.le_of_ble_eq_true rfl) (Nat.le_of_ble_eq_true rfl) ⟨rfl, rfl⟩
  have h48 : ∀ s : Unit, b_X6_wanted_48 N V s = some o → G E X 2 [md E a V] 0 0 [(0, .ref (a 0))] [] 48 := by
    intro s hf
    unfold b_X6_wanted_48 at hf
    refine g_aload_n C dX6_wanted_48 rfl 0 rfl ?_
    refine g_get (Cl := RX6) (T := TX6) (N := 14) C mi_X6 0 rfl (List.mem_of_getElem? (i := 0) rfl) rfl 0 (by decide) mt_589 rfl rfl dX6_wanted_49 ?_
    refine g_iconst (v := (1 : Int32)) C dX6_wanted_52 (by decide) ?_
    refine g_iald C 0 rfl (List.mem_of_getElem? (i := 1) rfl) (by show ¬ (_ ∨ _); decide) dX6_wanted_53 ?_
    refine g_goto (tgt := 58) C dX6_wanted_54 (by decide) ?_
    refine g_sub (lv2 := []) [] rfl ?_
    exact h58 (V.1 (Int32.toNatClampNeg (1 : Int32))) hf
  unfold f_X6_wanted at hf
  refine g_aload_n C dX6_wanted_0 rfl 0 rfl ?_
  refine g_get (Cl := RX6) (T := TX6) (N := 14) C mi_X6 0 rfl (List.mem_of_getElem? (i := 0) rfl) rfl 0 (by decide) mt_589 rfl rfl dX6_wanted_1 ?_
  refine g_bipush (v := (9 : Int32)) C dX6_wanted_4 (by decide) ?_
  refine g_iald C 0 rfl (List.mem_of_getElem? (i := 1) rfl) (by show ¬ (_ ∨ _); decide) dX6_wanted_6 ?_
  refine g_if_eq (tgt := 12) C dX6_wanted_7 (by decide) (fun c1 => ?_) (fun c1 => ?_)
  · have hf := (f_if hf).1 c1
    refine g_aload_n C dX6_wanted_12 rfl 0 rfl ?_
    refine g_get (Cl := RX6) (T := TX6) (N := 14) C mi_X6 0 rfl (List.mem_of_getElem? (i := 0) rfl) rfl 0 (by decide) mt_589 rfl rfl dX6_wanted_13 ?_
    refine g_iconst (v := (0 : Int32)) C dX6_wanted_16 (by decide) ?_
    refine g_iald C 0 rfl (List.mem_of_getElem? (i := 1) rfl) (by show ¬ (_ ∨ _); decide) dX6_wanted_17 ?_
    refine g_aload_n C dX6_wanted_18 rfl 0 rfl ?_
    obtain ⟨o2, h3, hf⟩ := bind_s hf
    refine g_callV (As := []) (rest := [.int (V.1 (Int32.toNatClampNeg (0 : Int32)))]) C k_X6_loadNow (fun l => c_X6_loadNow (E := E) (a := a) (V := V) h3 l) mt_717 [0] rfl (by decide) ⟨_, _, _, _, List.mem_flatten.mpr ⟨_, List.mem_of_getElem? (i := 0) rfl, List.mem_of_getElem? (i := 0) rfl⟩, rfl⟩ rfl (Nat.le_of_ble_eq_true rfl) ⟨Nat.le_of_ble_eq_true rfl, Nat.le_of_ble_eq_true rfl, Nat.le_of_ble_eq_true rfl, Nat.le_of_ble_eq_true rfl⟩ dX6_wanted_19 ?_
    rintro _ _ ⟨rfl, rfl⟩
    show G E X 2 [md E a V] 0 0 [(0, .ref (a 0))] [.int o2, .int (V.1 (Int32.toNatClampNeg (0 : Int32)))] 22
    refine g_aload_n C dX6_wanted_22 rfl 0 rfl ?_
    refine g_get (Cl := RX6) (T := TX6) (N := 14) C mi_X6 0 rfl (List.mem_of_getElem? (i := 0) rfl) rfl 0 (by decide) mt_589 rfl rfl dX6_wanted_23 ?_
    refine g_iconst (v := (5 : Int32)) C dX6_wanted_26 (by decide) ?_
    refine g_iald C 0 rfl (List.mem_of_getElem? (i := 1) rfl) (by show ¬ (_ ∨ _); decide) dX6_wanted_27 ?_
    obtain ⟨z4, hf⟩ := nz_s hf
    refine g_idiv C dX6_wanted_28 z4 ?_
    refine g_isub C dX6_wanted_29 ?_
    refine g_istore_n (lv2 := [(1, .int ((V.1 (Int32.toNatClampNeg (0 : Int32))) - (o2 / (V.1 (Int32.toNatClampNeg (5 : Int32)))))), (0, .ref (a 0))]) C dX6_wanted_30 rfl (by decide) rfl ?_
    refine g_aload_n C dX6_wanted_31 rfl 1 rfl ?_
    obtain ⟨o5, h6, hf⟩ := bind_s hf
    refine g_callV (As := []) (rest := []) C k_X6_isSlow (fun l => c_X6_isSlow (E := E) (a := a) (V := V) h6 l) mt_754 [0] rfl (by decide) ⟨_, _, _, _, List.mem_flatten.mpr ⟨_, List.mem_of_getElem? (i := 0) rfl, List.mem_of_getElem? (i := 0) rfl⟩, rfl⟩ rfl (Nat.le_of_ble_eq_true rfl) ⟨Nat.le_of_ble_eq_true rfl, Nat.le_of_ble_eq_true rfl, Nat.le_of_ble_eq_true rfl, Nat.le_of_ble_eq_true rfl⟩ dX6_wanted_32 ?_
    rintro _ _ ⟨rfl, rfl⟩
    show G E X 2 [md E a V] 0 0 [(1, .int ((V.1 (Int32.toNatClampNeg (0 : Int32))) - (o2 / (V.1 (Int32.toNatClampNeg (5 : Int32)))))), (0, .ref (a 0))] [.int o5] 35
    refine g_if_ne (tgt := 48) C dX6_wanted_35 (by decide) (fun c7 => ?_) (fun c7 => ?_)
    · have hf := (f_if hf).2 c7
      refine g_sub (lv2 := [(0, .ref (a 0))]) [1] rfl ?_
      exact h48 () hf
    · have hf := (f_if hf).1 c7
      refine g_iload_n C dX6_wanted_38 rfl 0 rfl ?_
      refine g_aload_n C dX6_wanted_39 rfl 1 rfl ?_
      refine g_get (Cl := RX6) (T := TX6) (N := 14) C mi_X6 0 rfl (List.mem_of_getElem? (i := 0) rfl) rfl 0 (by decide) mt_589 rfl rfl dX6_wanted_40 ?_
      refine g_iconst (v := (1 : Int32)) C dX6_wanted_43 (by decide) ?_
      refine g_iald C 0 rfl (List.mem_of_getElem? (i := 1) rfl) (by show ¬ (_ ∨ _); decide) dX6_wanted_44 ?_
      refine g_icmp_ge (tgt := 57) C dX6_wanted_45 (by decide) (fun c8 => ?_) (fun c8 => ?_)
      · have hf := (f_if hf).1 c8
        refine g_iload_n C dX6_wanted_57 rfl 0 rfl ?_
        refine g_sub (lv2 := []) [] rfl ?_
        exact h58 ((V.1 (Int32.toNatClampNeg (0 : Int32))) - (o2 / (V.1 (Int32.toNatClampNeg (5 : Int32))))) hf
      · have hf := (f_if hf).2 c8
        refine g_sub (lv2 := [(0, .ref (a 0))]) [1] rfl ?_
        exact h48 () hf
  · have hf := (f_if hf).2 c1
    refine g_iconst (v := (0 : Int32)) C dX6_wanted_10 (by decide) ?_
    obtain rfl := Option.some.inj hf
    exact g_iret C K dX6_wanted_11 (Nat.le_of_ble_eq_true rfl) (Nat.le_of_ble_eq_true rfl) ⟨rfl, rfl⟩
def b_X6_goTick_266 (N : Nat) (V : Md) (s : Md × Int32 × Int32) : Option (Md) := (ix s.2.1 173 (some ((upd (upd s.1.1 (Int32.toNatClampNeg s.2.1) s.2.2) (Int32.toNatClampNeg (7 : Int32)) (((upd s.1.1 (Int32.toNatClampNeg s.2.1) s.2.2) (Int32.toNatClampNeg (7 : Int32))) + (1 : Int32))), s.1.2.1, s.1.2.2.1, s.1.2.2.2.1, s.1.2.2.2.2.1, s.1.2.2.2.2.2.1, s.1.2.2.2.2.2.2.1, s.1.2.2.2.2.2.2.2.1, s.1.2.2.2.2.2.2.2.2.1, s.1.2.2.2.2.2.2.2.2.2.1, s.1.2.2.2.2.2.2.2.2.2.2.1, s.1.2.2.2.2.2.2.2.2.2.2.2.1, s.1.2.2.2.2.2.2.2.2.2.2.2.2.1, s.1.2.2.2.2.2.2.2.2.2.2.2.2.2)))
def b_X6_goTick_237 (N : Nat) (V : Md) (s : Md) : Option (Md) := (if (s.1 (Int32.toNatClampNeg (10 : Int32))) = 0 then b_X6_goTick_266 N V (s, (16 : Int32), ((s.1 (Int32.toNatClampNeg (16 : Int32))) + (1 : Int32))) else b_X6_goTick_266 N V (s, (16 : Int32), (0 : Int32)))
def b_X6_goTick_186 (N : Nat) (V : Md) (s : Md × Int32 × Int32) : Option (Md) := (ix s.2.1 173 ((f_X6_carry N ((upd s.1.1 (Int32.toNatClampNeg s.2.1) s.2.2), s.1.2.1, s.1.2.2.1, s.1.2.2.2.1, s.1.2.2.2.2.1, s.1.2.2.2.2.2.1, s.1.2.2.2.2.2.2.1, s.1.2.2.2.2.2.2.2.1, s.1.2.2.2.2.2.2.2.2.1, s.1.2.2.2.2.2.2.2.2.2.1, s.1.2.2.2.2.2.2.2.2.2.2.1, s.1.2.2.2.2.2.2.2.2.2.2.2.1, s.1.2.2.2.2.2.2.2.2.2.2.2.2.1, s.1.2.2.2.2.2.2.2.2.2.2.2.2.2)).bind fun o4 => (if ((upd o4.1 (Int32.toNatClampNeg (20 : Int32)) ((o4.1 (Int32.toNatClampNeg (20 : Int32))) + (o4.1 (Int32.toNatClampNeg (8 : Int32))))) (Int32.toNatClampNeg (9 : Int32))) = (1 : Int32) then (if ((upd o4.1 (Int32.toNatClampNeg (20 : Int32)) ((o4.1 (Int32.toNatClampNeg (20 : Int32))) + (o4.1 (Int32.toNatClampNeg (8 : Int32))))) (Int32.toNatClampNeg (8 : Int32))) = 0 then b_X6_goTick_237 N V ((upd (upd o4.1 (Int32.toNatClampNeg (20 : Int32)) ((o4.1 (Int32.toNatClampNeg (20 : Int32))) + (o4.1 (Int32.toNatClampNeg (8 : Int32))))) (Int32.toNatClampNeg (9 : Int32)) (2 : Int32)), o4.2.1, o4.2.2.1, o4.2.2.2.1, o4.2.2.2.2.1, o4.2.2.2.2.2.1, o4.2.2.2.2.2.2.1, o4.2.2.2.2.2.2.2.1, o4.2.2.2.2.2.2.2.2.1, o4.2.2.2.2.2.2.2.2.2.1, o4.2.2.2.2.2.2.2.2.2.2.1, o4.2.2.2.2.2.2.2.2.2.2.2.1, o4.2.2.2.2.2.2.2.2.2.2.2.2.1, o4.2.2.2.2.2.2.2.2.2.2.2.2.2) else b_X6_goTick_237 N V ((upd o4.1 (Int32.toNatClampNeg (20 : Int32)) ((o4.1 (Int32.toNatClampNeg (20 : Int32))) + (o4.1 (Int32.toNatClampNeg (8 : Int32))))), o4.2.1, o4.2.2.1, o4.2.2.2.1, o4.2.2.2.2.1, o4.2.2.2.2.2.1, o4.2.2.2.2.2.2.1, o4.2.2.2.2.2.2.2.1, o4.2.2.2.2.2.2.2.2.1, o4.2.2.2.2.2.2.2.2.2.1, o4.2.2.2.2.2.2.2.2.2.2.1, o4.2.2.2.2.2.2.2.2.2.2.2.1, o4.2.2.2.2.2.2.2.2.2.2.2.2.1, o4.2.2.2.2.2.2.2.2.2.2.2.2.2)) else b_X6_goTick_237 N V ((upd o4.1 (Int32.toNatClampNeg (20 : Int32)) ((o4.1 (Int32.toNatClampNeg (20 : Int32))) + (o4.1 (Int32.toNatClampNeg (8 : Int32))))), o4.2.1, o4.2.2.1, o4.2.2.2.1, o4.2.2.2.2.1, o4.2.2.2.2.2.1, o4.2.2.2.2.2.2.1, o4.2.2.2.2.2.2.2.1, o4.2.2.2.2.2.2.2.2.1, o4.2.2.2.2.2.2.2.2.2.1, o4.2.2.2.2.2.2.2.2.2.2.1, o4.2.2.2.2.2.2.2.2.2.2.2.1, o4.2.2.2.2.2.2.2.2.2.2.2.2.1, o4.2.2.2.2.2.2.2.2.2.2.2.2.2))))
def b_X6_goTick_157 (N : Nat) (V : Md) (s : Md × Int32) : Option (Md) := (if s.2 ≤ (s.1.1 (Int32.toNatClampNeg (21 : Int32))) then b_X6_goTick_186 N V (s.1, (21 : Int32), (s.1.1 (Int32.toNatClampNeg (21 : Int32)))) else b_X6_goTick_186 N V (s.1, (21 : Int32), s.2))
def b_X6_goTick_135 (N : Nat) (V : Md) (s : Md × Int32) : Option (Md) := (if 0 ≤ s.2 then b_X6_goTick_157 N V (((upd s.1.1 (Int32.toNatClampNeg (8 : Int32)) ((s.1.1 (Int32.toNatClampNeg (8 : Int32))) + s.2)), s.1.2.1, s.1.2.2.1, s.1.2.2.2.1, s.1.2.2.2.2.1, s.1.2.2.2.2.2.1, s.1.2.2.2.2.2.2.1, s.1.2.2.2.2.2.2.2.1, s.1.2.2.2.2.2.2.2.2.1, s.1.2.2.2.2.2.2.2.2.2.1, s.1.2.2.2.2.2.2.2.2.2.2.1, s.1.2.2.2.2.2.2.2.2.2.2.2.1, s.1.2.2.2.2.2.2.2.2.2.2.2.2.1, s.1.2.2.2.2.2.2.2.2.2.2.2.2.2), s.2) else b_X6_goTick_157 N V (((upd s.1.1 (Int32.toNatClampNeg (8 : Int32)) ((s.1.1 (Int32.toNatClampNeg (8 : Int32))) + s.2)), s.1.2.1, s.1.2.2.1, s.1.2.2.2.1, s.1.2.2.2.2.1, s.1.2.2.2.2.2.1, s.1.2.2.2.2.2.2.1, s.1.2.2.2.2.2.2.2.1, s.1.2.2.2.2.2.2.2.2.1, s.1.2.2.2.2.2.2.2.2.2.1, s.1.2.2.2.2.2.2.2.2.2.2.1, s.1.2.2.2.2.2.2.2.2.2.2.2.1, s.1.2.2.2.2.2.2.2.2.2.2.2.2.1, s.1.2.2.2.2.2.2.2.2.2.2.2.2.2), (-s.2)))
def b_X6_goTick_100 (N : Nat) (V : Md) (s : Md × Int32) : Option (Md) := ((f_X6_wanted N s.1).bind fun o10 => (if (o10 - (s.1.1 (Int32.toNatClampNeg (8 : Int32)))) ≤ s.2 then (if (-s.2) ≤ (o10 - (s.1.1 (Int32.toNatClampNeg (8 : Int32)))) then b_X6_goTick_135 N V (s.1, (o10 - (s.1.1 (Int32.toNatClampNeg (8 : Int32))))) else b_X6_goTick_135 N V (s.1, (-s.2))) else b_X6_goTick_135 N V (s.1, s.2)))
def b_X6_goTick_60 (N : Nat) (V : Md) (K : (Md × Int32) → Option (Md)) (s : Md × Int32 × Int32 × Int32) : Option (Md) := (ix s.2.2.1 173 (K (((upd s.1.1 (Int32.toNatClampNeg s.2.2.1) s.2.2.2), s.1.2.1, s.1.2.2.1, s.1.2.2.2.1, s.1.2.2.2.2.1, s.1.2.2.2.2.2.1, s.1.2.2.2.2.2.2.1, s.1.2.2.2.2.2.2.2.1, s.1.2.2.2.2.2.2.2.2.1, s.1.2.2.2.2.2.2.2.2.2.1, s.1.2.2.2.2.2.2.2.2.2.2.1, s.1.2.2.2.2.2.2.2.2.2.2.2.1, s.1.2.2.2.2.2.2.2.2.2.2.2.2.1, s.1.2.2.2.2.2.2.2.2.2.2.2.2.2), (s.2.1 + (1 : Int32)))))
def b_X6_goTick_24 (N : Nat) (V : Md) (K : (Md × Int32) → Option (Md)) (s : Md × Int32) : Option (Md) := (if (4 : Int32) ≤ s.2 then ((f_X6_loadNow N s.1).bind fun o16 => (if o16 ≤ (s.1.1 (Int32.toNatClampNeg (6 : Int32))) then b_X6_goTick_100 N V (s.1, (s.1.1 (Int32.toNatClampNeg (2 : Int32)))) else b_X6_goTick_100 N V (s.1, (((s.1.1 (Int32.toNatClampNeg (2 : Int32))) + (1 : Int32)) / (2 : Int32))))) else ((f_X6_disagrees s.1 s.2).bind fun o19 => (if o19 = 0 then b_X6_goTick_60 N V K (s.1, s.2, ((12 : Int32) + s.2), (0 : Int32)) else (ix ((12 : Int32) + s.2) 173 (b_X6_goTick_60 N V K (s.1, s.2, ((12 : Int32) + s.2), ((s.1.1 (Int32.toNatClampNeg ((12 : Int32) + s.2))) + (1 : Int32))))))))
def b_X6_goTick_22 (N : Nat) (V : Md) (s : Md) : Option (Md) := lp (b_X6_goTick_24 N V) N (s, (0 : Int32))
def f_X6_goTick (N : Nat) (V : Md) : Option (Md) := (if (V.1 (Int32.toNatClampNeg (9 : Int32))) = 0 then ((f_X6_holdsNow N V).bind fun o24 => (if o24.1 = 0 then b_X6_goTick_22 N V o24.2 else ((f_X6_halt N o24.2 (0 : Int32)).bind fun o27 => b_X6_goTick_22 N V o27))) else b_X6_goTick_22 N V V)
abbrev rm_X6_goTick : Room := { frames := 5, cells := 0, slots := 0, locals := 109 }
set_option maxRecDepth 100000 in
theorem k_X6_goTick : CF yX6_goTick cX6_goTick 4 (Option.none : Option FieldType) 0 := ⟨mt_744, mp_37, mt_13, mt_745, ⟨rfl, by decide +kernel, by decide +kernel, by decide +kernel⟩⟩
set_option maxHeartbeats 4000000 in
set_option maxRecDepth 100000 in
theorem c_X6_goTick {E : Ev} {a : Nat → Nat} {V : Md} {N : Nat} {o : Md} (hf : f_X6_goTick N V = some o) : ∀ l, MG l yX6_goTick cX6_goTick 4 (Option.none : Option FieldType) rm_X6_goTick E [.ref (a 0)] [md E a V] (fun v Y => v = none ∧ Y = [md E a o]) := by
  refine MG.mk (own := RX6) (lv0 := [(0, .ref (a 0))]) (by decide) rfl (Nat.le_of_ble_eq_true rfl) rfl (fun X C K I => ?_)
  have h266 : ∀ s : Md × Int32 × Int32, b_X6_goTick_266 N V s = some o → G E X 4 [md E a s.1] 0 0 [(0, .ref (a 0))] [.int s.2.2, .int s.2.1, .ref (a 1)] 266 := by
    intro s hf
    unfold b_X6_goTick_266 at hf
    obtain ⟨i1, hf⟩ := ix_s hf
    refine g_iast (Y2 := [md E a ((upd s.1.1 (Int32.toNatClampNeg s.2.1) s.2.2), s.1.2.1, s.1.2.2.1, s.1.2.2.2.1, s.1.2.2.2.2.1, s.1.2.2.2.2.2.1, s.1.2.2.2.2.2.2.1, s.1.2.2.2.2.2.2.2.1, s.1.2.2.2.2.2.2.2.2.1, s.1.2.2.2.2.2.2.2.2.2.1, s.1.2.2.2.2.2.2.2.2.2.2.1, s.1.2.2.2.2.2.2.2.2.2.2.2.1, s.1.2.2.2.2.2.2.2.2.2.2.2.2.1, s.1.2.2.2.2.2.2.2.2.2.2.2.2.2)]) C 0 1 rfl rfl i1 dX6_goTick_266 rfl ?_
    refine g_aload_n C dX6_goTick_267 rfl 0 rfl ?_
    refine g_get (Cl := RX6) (T := TX6) (N := 14) C mi_X6 0 rfl (List.mem_of_getElem? (i := 0) rfl) rfl 0 (by decide) mt_589 rfl rfl dX6_goTick_268 ?_
    refine g_bipush (v := (7 : Int32)) C dX6_goTick_271 (by decide) ?_
    refine g_dup2 C dX6_goTick_273 rfl rfl ?_
    refine g_iald C 0 rfl (List.mem_of_getElem? (i := 1) rfl) (by show ¬ (_ ∨ _); decide) dX6_goTick_274 ?_
    refine g_iconst (v := (1 : Int32)) C dX6_goTick_275 (by decide) ?_
    refine g_iadd C dX6_goTick_276 ?_
    refine g_iast (Y2 := [md E a ((upd (upd s.1.1 (Int32.toNatClampNeg s.2.1) s.2.2) (Int32.toNatClampNeg (7 : Int32)) (((upd s.1.1 (Int32.toNatClampNeg s.2.1) s.2.2) (Int32.toNatClampNeg (7 : Int32))) + (1 : Int32))), s.1.2.1, s.1.2.2.1, s.1.2.2.2.1, s.1.2.2.2.2.1, s.1.2.2.2.2.2.1, s.1.2.2.2.2.2.2.1, s.1.2.2.2.2.2.2.2.1, s.1.2.2.2.2.2.2.2.2.1, s.1.2.2.2.2.2.2.2.2.2.1, s.1.2.2.2.2.2.2.2.2.2.2.1, s.1.2.2.2.2.2.2.2.2.2.2.2.1, s.1.2.2.2.2.2.2.2.2.2.2.2.2.1, s.1.2.2.2.2.2.2.2.2.2.2.2.2.2)]) C 0 1 rfl rfl (by show ¬ (_ ∨ _); decide) dX6_goTick_277 rfl ?_
    obtain rfl := Option.some.inj hf
    exact g_ret C K dX6_goTick_278 (Nat.le_of_ble_eq_true rfl) (Nat.le_of_ble_eq_true rfl) ⟨rfl, rfl⟩
  have h237 : ∀ s : Md, b_X6_goTick_237 N V s = some o → G E X 4 [md E a s] 0 0 [(0, .ref (a 0))] [] 237 := by
    intro s hf
    unfold b_X6_goTick_237 at hf
    refine g_aload_n C dX6_goTick_237 rfl 0 rfl ?_
    refine g_get (Cl := RX6) (T := TX6) (N := 14) C mi_X6 0 rfl (List.mem_of_getElem? (i := 0) rfl) rfl 0 (by decide) mt_589 rfl rfl dX6_goTick_238 ?_
    refine g_bipush (v := (16 : Int32)) C dX6_goTick_241 (by decide) ?_
    refine g_aload_n C dX6_goTick_243 rfl 0 rfl ?_
    refine g_get (Cl := RX6) (T := TX6) (N := 14) C mi_X6 0 rfl (List.mem_of_getElem? (i := 0) rfl) rfl 0 (by decide) mt_589 rfl rfl dX6_goTick_244 ?_
    refine g_bipush (v := (10 : Int32)) C dX6_goTick_247 (by decide) ?_
    refine g_iald C 0 rfl (List.mem_of_getElem? (i := 1) rfl) (by show ¬ (_ ∨ _); decide) dX6_goTick_249 ?_
    refine g_if_ne (tgt := 265) C dX6_goTick_250 (by decide) (fun c2 => ?_) (fun c2 => ?_)
    · have hf := (f_if hf).2 c2
      refine g_iconst (v := (0 : Int32)) C dX6_goTick_265 (by decide) ?_
      exact h266 (s, (16 : Int32), (0 : Int32)) hf
    · have hf := (f_if hf).1 c2
      refine g_aload_n C dX6_goTick_253 rfl 0 rfl ?_
      refine g_get (Cl := RX6) (T := TX6) (N := 14) C mi_X6 0 rfl (List.mem_of_getElem? (i := 0) rfl) rfl 0 (by decide) mt_589 rfl rfl dX6_goTick_254 ?_
      refine g_bipush (v := (16 : Int32)) C dX6_goTick_257 (by decide) ?_
      refine g_iald C 0 rfl (List.mem_of_getElem? (i := 1) rfl) (by show ¬ (_ ∨ _); decide) dX6_goTick_259 ?_
      refine g_iconst (v := (1 : Int32)) C dX6_goTick_260 (by decide) ?_
      refine g_iadd C dX6_goTick_261 ?_
      refine g_goto (tgt := 266) C dX6_goTick_262 (by decide) ?_
      exact h266 (s, (16 : Int32), ((s.1 (Int32.toNatClampNeg (16 : Int32))) + (1 : Int32))) hf
  have h186 : ∀ s : Md × Int32 × Int32, b_X6_goTick_186 N V s = some o → G E X 4 [md E a s.1] 0 0 [(0, .ref (a 0))] [.int s.2.2, .int s.2.1, .ref (a 1)] 186 := by
    intro s hf
    unfold b_X6_goTick_186 at hf
    obtain ⟨i3, hf⟩ := ix_s hf
    refine g_iast (Y2 := [md E a ((upd s.1.1 (Int32.toNatClampNeg s.2.1) s.2.2), s.1.2.1, s.1.2.2.1, s.1.2.2.2.1, s.1.2.2.2.2.1, s.1.2.2.2.2.2.1, s.1.2.2.2.2.2.2.1, s.1.2.2.2.2.2.2.2.1, s.1.2.2.2.2.2.2.2.2.1, s.1.2.2.2.2.2.2.2.2.2.1, s.1.2.2.2.2.2.2.2.2.2.2.1, s.1.2.2.2.2.2.2.2.2.2.2.2.1, s.1.2.2.2.2.2.2.2.2.2.2.2.2.1, s.1.2.2.2.2.2.2.2.2.2.2.2.2.2)]) C 0 1 rfl rfl i3 dX6_goTick_186 rfl ?_
    refine g_aload_n C dX6_goTick_187 rfl 0 rfl ?_
    obtain ⟨o4, h5, hf⟩ := bind_s hf
    refine g_callV (As := []) (rest := []) C k_X6_carry (fun l => c_X6_carry (E := E) (a := a) (V := ((upd s.1.1 (Int32.toNatClampNeg s.2.1) s.2.2), s.1.2.1, s.1.2.2.1, s.1.2.2.2.1, s.1.2.2.2.2.1, s.1.2.2.2.2.2.1, s.1.2.2.2.2.2.2.1, s.1.2.2.2.2.2.2.2.1, s.1.2.2.2.2.2.2.2.2.1, s.1.2.2.2.2.2.2.2.2.2.1, s.1.2.2.2.2.2.2.2.2.2.2.1, s.1.2.2.2.2.2.2.2.2.2.2.2.1, s.1.2.2.2.2.2.2.2.2.2.2.2.2.1, s.1.2.2.2.2.2.2.2.2.2.2.2.2.2)) h5 l) mt_758 [0] rfl (by decide) ⟨_, _, _, _, List.mem_flatten.mpr ⟨_, List.mem_of_getElem? (i := 0) rfl, List.mem_of_getElem? (i := 0) rfl⟩, rfl⟩ rfl (Nat.le_of_ble_eq_true rfl) ⟨Nat.le_of_ble_eq_true rfl, Nat.le_of_ble_eq_true rfl, Nat.le_of_ble_eq_true rfl, Nat.le_of_ble_eq_true rfl⟩ dX6_goTick_188 ?_
    rintro _ _ ⟨rfl, rfl⟩
    show G E X 4 [md E a o4] 0 0 [(0, .ref (a 0))] [] 191
    refine g_aload_n C dX6_goTick_191 rfl 0 rfl ?_
    refine g_get (Cl := RX6) (T := TX6) (N := 14) C mi_X6 0 rfl (List.mem_of_getElem? (i := 0) rfl) rfl 0 (by decide) mt_589 rfl rfl dX6_goTick_192 ?_
    refine g_bipush (v := (20 : Int32)) C dX6_goTick_195 (by decide) ?_
    refine g_dup2 C dX6_goTick_197 rfl rfl ?_
    refine g_iald C 0 rfl (List.mem_of_getElem? (i := 1) rfl) (by show ¬ (_ ∨ _); decide) dX6_goTick_198 ?_
    refine g_aload_n C dX6_goTick_199 rfl 0 rfl ?_
    refine g_get (Cl := RX6) (T := TX6) (N := 14) C mi_X6 0 rfl (List.mem_of_getElem? (i := 0) rfl) rfl 0 (by decide) mt_589 rfl rfl dX6_goTick_200 ?_
    refine g_bipush (v := (8 : Int32)) C dX6_goTick_203 (by decide) ?_
    refine g_iald C 0 rfl (List.mem_of_getElem? (i := 1) rfl) (by show ¬ (_ ∨ _); decide) dX6_goTick_205 ?_
    refine g_iadd C dX6_goTick_206 ?_
    refine g_iast (Y2 := [md E a ((upd o4.1 (Int32.toNatClampNeg (20 : Int32)) ((o4.1 (Int32.toNatClampNeg (20 : Int32))) + (o4.1 (Int32.toNatClampNeg (8 : Int32))))), o4.2.1, o4.2.2.1, o4.2.2.2.1, o4.2.2.2.2.1, o4.2.2.2.2.2.1, o4.2.2.2.2.2.2.1, o4.2.2.2.2.2.2.2.1, o4.2.2.2.2.2.2.2.2.1, o4.2.2.2.2.2.2.2.2.2.1, o4.2.2.2.2.2.2.2.2.2.2.1, o4.2.2.2.2.2.2.2.2.2.2.2.1, o4.2.2.2.2.2.2.2.2.2.2.2.2.1, o4.2.2.2.2.2.2.2.2.2.2.2.2.2)]) C 0 1 rfl rfl (by show ¬ (_ ∨ _); decide) dX6_goTick_207 rfl ?_
    refine g_aload_n C dX6_goTick_208 rfl 0 rfl ?_
    refine g_get (Cl := RX6) (T := TX6) (N := 14) C mi_X6 0 rfl (List.mem_of_getElem? (i := 0) rfl) rfl 0 (by decide) mt_589 rfl rfl dX6_goTick_209 ?_
    refine g_bipush (v := (9 : Int32)) C dX6_goTick_212 (by decide) ?_
    refine g_iald C 0 rfl (List.mem_of_getElem? (i := 1) rfl) (by show ¬ (_ ∨ _); decide) dX6_goTick_214 ?_
    refine g_iconst (v := (1 : Int32)) C dX6_goTick_215 (by decide) ?_
    refine g_icmp_ne (tgt := 237) C dX6_goTick_216 (by decide) (fun c6 => ?_) (fun c6 => ?_)
    · have hf := (f_if hf).2 c6
      exact h237 ((upd o4.1 (Int32.toNatClampNeg (20 : Int32)) ((o4.1 (Int32.toNatClampNeg (20 : Int32))) + (o4.1 (Int32.toNatClampNeg (8 : Int32))))), o4.2.1, o4.2.2.1, o4.2.2.2.1, o4.2.2.2.2.1, o4.2.2.2.2.2.1, o4.2.2.2.2.2.2.1, o4.2.2.2.2.2.2.2.1, o4.2.2.2.2.2.2.2.2.1, o4.2.2.2.2.2.2.2.2.2.1, o4.2.2.2.2.2.2.2.2.2.2.1, o4.2.2.2.2.2.2.2.2.2.2.2.1, o4.2.2.2.2.2.2.2.2.2.2.2.2.1, o4.2.2.2.2.2.2.2.2.2.2.2.2.2) hf
    · have hf := (f_if hf).1 c6
      refine g_aload_n C dX6_goTick_219 rfl 0 rfl ?_
      refine g_get (Cl := RX6) (T := TX6) (N := 14) C mi_X6 0 rfl (List.mem_of_getElem? (i := 0) rfl) rfl 0 (by decide) mt_589 rfl rfl dX6_goTick_220 ?_
      refine g_bipush (v := (8 : Int32)) C dX6_goTick_223 (by decide) ?_
      refine g_iald C 0 rfl (List.mem_of_getElem? (i := 1) rfl) (by show ¬ (_ ∨ _); decide) dX6_goTick_225 ?_
      refine g_if_ne (tgt := 237) C dX6_goTick_226 (by decide) (fun c7 => ?_) (fun c7 => ?_)
      · have hf := (f_if hf).2 c7
        exact h237 ((upd o4.1 (Int32.toNatClampNeg (20 : Int32)) ((o4.1 (Int32.toNatClampNeg (20 : Int32))) + (o4.1 (Int32.toNatClampNeg (8 : Int32))))), o4.2.1, o4.2.2.1, o4.2.2.2.1, o4.2.2.2.2.1, o4.2.2.2.2.2.1, o4.2.2.2.2.2.2.1, o4.2.2.2.2.2.2.2.1, o4.2.2.2.2.2.2.2.2.1, o4.2.2.2.2.2.2.2.2.2.1, o4.2.2.2.2.2.2.2.2.2.2.1, o4.2.2.2.2.2.2.2.2.2.2.2.1, o4.2.2.2.2.2.2.2.2.2.2.2.2.1, o4.2.2.2.2.2.2.2.2.2.2.2.2.2) hf
      · have hf := (f_if hf).1 c7
        refine g_aload_n C dX6_goTick_229 rfl 0 rfl ?_
        refine g_get (Cl := RX6) (T := TX6) (N := 14) C mi_X6 0 rfl (List.mem_of_getElem? (i := 0) rfl) rfl 0 (by decide) mt_589 rfl rfl dX6_goTick_230 ?_
        refine g_bipush (v := (9 : Int32)) C dX6_goTick_233 (by decide) ?_
        refine g_iconst (v := (2 : Int32)) C dX6_goTick_235 (by decide) ?_
        refine g_iast (Y2 := [md E a ((upd (upd o4.1 (Int32.toNatClampNeg (20 : Int32)) ((o4.1 (Int32.toNatClampNeg (20 : Int32))) + (o4.1 (Int32.toNatClampNeg (8 : Int32))))) (Int32.toNatClampNeg (9 : Int32)) (2 : Int32)), o4.2.1, o4.2.2.1, o4.2.2.2.1, o4.2.2.2.2.1, o4.2.2.2.2.2.1, o4.2.2.2.2.2.2.1, o4.2.2.2.2.2.2.2.1, o4.2.2.2.2.2.2.2.2.1, o4.2.2.2.2.2.2.2.2.2.1, o4.2.2.2.2.2.2.2.2.2.2.1, o4.2.2.2.2.2.2.2.2.2.2.2.1, o4.2.2.2.2.2.2.2.2.2.2.2.2.1, o4.2.2.2.2.2.2.2.2.2.2.2.2.2)]) C 0 1 rfl rfl (by show ¬ (_ ∨ _); decide) dX6_goTick_236 rfl ?_
        exact h237 ((upd (upd o4.1 (Int32.toNatClampNeg (20 : Int32)) ((o4.1 (Int32.toNatClampNeg (20 : Int32))) + (o4.1 (Int32.toNatClampNeg (8 : Int32))))) (Int32.toNatClampNeg (9 : Int32)) (2 : Int32)), o4.2.1, o4.2.2.1, o4.2.2.2.1, o4.2.2.2.2.1, o4.2.2.2.2.2.1, o4.2.2.2.2.2.2.1, o4.2.2.2.2.2.2.2.1, o4.2.2.2.2.2.2.2.2.1, o4.2.2.2.2.2.2.2.2.2.1, o4.2.2.2.2.2.2.2.2.2.2.1, o4.2.2.2.2.2.2.2.2.2.2.2.1, o4.2.2.2.2.2.2.2.2.2.2.2.2.1, o4.2.2.2.2.2.2.2.2.2.2.2.2.2) hf
  have h157 : ∀ s : Md × Int32, b_X6_goTick_157 N V s = some o → G E X 4 [md E a s.1] 0 0 [(0, .ref (a 0))] [.int s.2] 157 := by
    intro s hf
    unfold b_X6_goTick_157 at hf
    refine g_istore_n (lv2 := [(3, .int s.2), (0, .ref (a 0))]) C dX6_goTick_157 rfl (by decide) rfl ?_
    refine g_aload_n C dX6_goTick_158 rfl 1 rfl ?_
    refine g_get (Cl := RX6) (T := TX6) (N := 14) C mi_X6 0 rfl (List.mem_of_getElem? (i := 0) rfl) rfl 0 (by decide) mt_589 rfl rfl dX6_goTick_159 ?_
    refine g_bipush (v := (21 : Int32)) C dX6_goTick_162 (by decide) ?_
    refine g_iload_n C dX6_goTick_164 rfl 0 rfl ?_
    refine g_aload_n C dX6_goTick_165 rfl 1 rfl ?_
    refine g_get (Cl := RX6) (T := TX6) (N := 14) C mi_X6 0 rfl (List.mem_of_getElem? (i := 0) rfl) rfl 0 (by decide) mt_589 rfl rfl dX6_goTick_166 ?_
    refine g_bipush (v := (21 : Int32)) C dX6_goTick_169 (by decide) ?_
    refine g_iald C 0 rfl (List.mem_of_getElem? (i := 1) rfl) (by show ¬ (_ ∨ _); decide) dX6_goTick_171 ?_
    refine g_icmp_le (tgt := 179) C dX6_goTick_172 (by decide) (fun c8 => ?_) (fun c8 => ?_)
    · have hf := (f_if hf).1 c8
      refine g_aload_n C dX6_goTick_179 rfl 1 rfl ?_
      refine g_get (Cl := RX6) (T := TX6) (N := 14) C mi_X6 0 rfl (List.mem_of_getElem? (i := 0) rfl) rfl 0 (by decide) mt_589 rfl rfl dX6_goTick_180 ?_
      refine g_bipush (v := (21 : Int32)) C dX6_goTick_183 (by decide) ?_
      refine g_iald C 0 rfl (List.mem_of_getElem? (i := 1) rfl) (by show ¬ (_ ∨ _); decide) dX6_goTick_185 ?_
      refine g_sub (lv2 := [(0, .ref (a 0))]) [1] rfl ?_
      exact h186 (s.1, (21 : Int32), (s.1.1 (Int32.toNatClampNeg (21 : Int32)))) hf
    · have hf := (f_if hf).2 c8
      refine g_iload_n C dX6_goTick_175 rfl 0 rfl ?_
      refine g_goto (tgt := 186) C dX6_goTick_176 (by decide) ?_
      refine g_sub (lv2 := [(0, .ref (a 0))]) [1] rfl ?_
      exact h186 (s.1, (21 : Int32), s.2) hf
  have h135 : ∀ s : Md × Int32, b_X6_goTick_135 N V s = some o → G E X 4 [md E a s.1] 0 0 [(0, .ref (a 0))] [.int s.2] 135 := by
    intro s hf
    unfold b_X6_goTick_135 at hf
    refine g_istore_n (lv2 := [(2, .int s.2), (0, .ref (a 0))]) C dX6_goTick_135 rfl (by decide) rfl ?_
    refine g_aload_n C dX6_goTick_136 rfl 1 rfl ?_
    refine g_get (Cl := RX6) (T := TX6) (N := 14) C mi_X6 0 rfl (List.mem_of_getElem? (i := 0) rfl) rfl 0 (by decide) mt_589 rfl rfl dX6_goTick_137 ?_
    refine g_bipush (v := (8 : Int32)) C dX6_goTick_140 (by decide) ?_
    refine g_dup2 C dX6_goTick_142 rfl rfl ?_
    refine g_iald C 0 rfl (List.mem_of_getElem? (i := 1) rfl) (by show ¬ (_ ∨ _); decide) dX6_goTick_143 ?_
    refine g_iload_n C dX6_goTick_144 rfl 0 rfl ?_
    refine g_iadd C dX6_goTick_145 ?_
    refine g_iast (Y2 := [md E a ((upd s.1.1 (Int32.toNatClampNeg (8 : Int32)) ((s.1.1 (Int32.toNatClampNeg (8 : Int32))) + s.2)), s.1.2.1, s.1.2.2.1, s.1.2.2.2.1, s.1.2.2.2.2.1, s.1.2.2.2.2.2.1, s.1.2.2.2.2.2.2.1, s.1.2.2.2.2.2.2.2.1, s.1.2.2.2.2.2.2.2.2.1, s.1.2.2.2.2.2.2.2.2.2.1, s.1.2.2.2.2.2.2.2.2.2.2.1, s.1.2.2.2.2.2.2.2.2.2.2.2.1, s.1.2.2.2.2.2.2.2.2.2.2.2.2.1, s.1.2.2.2.2.2.2.2.2.2.2.2.2.2)]) C 0 1 rfl rfl (by show ¬ (_ ∨ _); decide) dX6_goTick_146 rfl ?_
    refine g_iload_n C dX6_goTick_147 rfl 0 rfl ?_
    refine g_if_ge (tgt := 156) C dX6_goTick_148 (by decide) (fun c9 => ?_) (fun c9 => ?_)
    · have hf := (f_if hf).1 c9
      refine g_iload_n C dX6_goTick_156 rfl 0 rfl ?_
      refine g_sub (lv2 := [(0, .ref (a 0))]) [1] rfl ?_
      exact h157 (((upd s.1.1 (Int32.toNatClampNeg (8 : Int32)) ((s.1.1 (Int32.toNatClampNeg (8 : Int32))) + s.2)), s.1.2.1, s.1.2.2.1, s.1.2.2.2.1, s.1.2.2.2.2.1, s.1.2.2.2.2.2.1, s.1.2.2.2.2.2.2.1, s.1.2.2.2.2.2.2.2.1, s.1.2.2.2.2.2.2.2.2.1, s.1.2.2.2.2.2.2.2.2.2.1, s.1.2.2.2.2.2.2.2.2.2.2.1, s.1.2.2.2.2.2.2.2.2.2.2.2.1, s.1.2.2.2.2.2.2.2.2.2.2.2.2.1, s.1.2.2.2.2.2.2.2.2.2.2.2.2.2), s.2) hf
    · have hf := (f_if hf).2 c9
      refine g_iload_n C dX6_goTick_151 rfl 0 rfl ?_
      refine g_ineg C dX6_goTick_152 ?_
      refine g_goto (tgt := 157) C dX6_goTick_153 (by decide) ?_
      refine g_sub (lv2 := [(0, .ref (a 0))]) [1] rfl ?_
      exact h157 (((upd s.1.1 (Int32.toNatClampNeg (8 : Int32)) ((s.1.1 (Int32.toNatClampNeg (8 : Int32))) + s.2)), s.1.2.1, s.1.2.2.1, s.1.2.2.2.1, s.1.2.2.2.2.1, s.1.2.2.2.2.2.1, s.1.2.2.2.2.2.2.1, s.1.2.2.2.2.2.2.2.1, s.1.2.2.2.2.2.2.2.2.1, s.1.2.2.2.2.2.2.2.2.2.1, s.1.2.2.2.2.2.2.2.2.2.2.1, s.1.2.2.2.2.2.2.2.2.2.2.2.1, s.1.2.2.2.2.2.2.2.2.2.2.2.2.1, s.1.2.2.2.2.2.2.2.2.2.2.2.2.2), (-s.2)) hf
  have h100 : ∀ s : Md × Int32, b_X6_goTick_100 N V s = some o → G E X 4 [md E a s.1] 0 0 [(0, .ref (a 0))] [.int s.2] 100 := by
    intro s hf
    unfold b_X6_goTick_100 at hf
    refine g_istore_n (lv2 := [(1, .int s.2), (0, .ref (a 0))]) C dX6_goTick_100 rfl (by decide) rfl ?_
    refine g_aload_n C dX6_goTick_101 rfl 1 rfl ?_
    obtain ⟨o10, h11, hf⟩ := bind_s hf
    refine g_callV (As := []) (rest := []) C k_X6_wanted (fun l => c_X6_wanted (E := E) (a := a) (V := s.1) h11 l) mt_750 [0] rfl (by decide) ⟨_, _, _, _, List.mem_flatten.mpr ⟨_, List.mem_of_getElem? (i := 0) rfl, List.mem_of_getElem? (i := 0) rfl⟩, rfl⟩ rfl (Nat.le_of_ble_eq_true rfl) ⟨Nat.le_of_ble_eq_true rfl, Nat.le_of_ble_eq_true rfl, Nat.le_of_ble_eq_true rfl, Nat.le_of_ble_eq_true rfl⟩ dX6_goTick_102 ?_
    rintro _ _ ⟨rfl, rfl⟩
    show G E X 4 [md E a s.1] 0 0 [(1, .int s.2), (0, .ref (a 0))] [.int o10] 105
    refine g_aload_n C dX6_goTick_105 rfl 1 rfl ?_
    refine g_get (Cl := RX6) (T := TX6) (N := 14) C mi_X6 0 rfl (List.mem_of_getElem? (i := 0) rfl) rfl 0 (by decide) mt_589 rfl rfl dX6_goTick_106 ?_
    refine g_bipush (v := (8 : Int32)) C dX6_goTick_109 (by decide) ?_
    refine g_iald C 0 rfl (List.mem_of_getElem? (i := 1) rfl) (by show ¬ (_ ∨ _); decide) dX6_goTick_111 ?_
    refine g_isub C dX6_goTick_112 ?_
    refine g_istore_n (lv2 := [(2, .int (o10 - (s.1.1 (Int32.toNatClampNeg (8 : Int32))))), (1, .int s.2), (0, .ref (a 0))]) C dX6_goTick_113 rfl (by decide) rfl ?_
    refine g_iload_n C dX6_goTick_114 rfl 0 rfl ?_
    refine g_iload_n C dX6_goTick_115 rfl 1 rfl ?_
    refine g_icmp_le (tgt := 123) C dX6_goTick_116 (by decide) (fun c12 => ?_) (fun c12 => ?_)
    · have hf := (f_if hf).1 c12
      refine g_iload_n C dX6_goTick_123 rfl 0 rfl ?_
      refine g_iload_n C dX6_goTick_124 rfl 1 rfl ?_
      refine g_ineg C dX6_goTick_125 ?_
      refine g_icmp_ge (tgt := 134) C dX6_goTick_126 (by decide) (fun c13 => ?_) (fun c13 => ?_)
      · have hf := (f_if hf).1 c13
        refine g_iload_n C dX6_goTick_134 rfl 0 rfl ?_
        refine g_sub (lv2 := [(0, .ref (a 0))]) [2] rfl ?_
        exact h135 (s.1, (o10 - (s.1.1 (Int32.toNatClampNeg (8 : Int32))))) hf
      · have hf := (f_if hf).2 c13
        refine g_iload_n C dX6_goTick_129 rfl 1 rfl ?_
        refine g_ineg C dX6_goTick_130 ?_
        refine g_goto (tgt := 135) C dX6_goTick_131 (by decide) ?_
        refine g_sub (lv2 := [(0, .ref (a 0))]) [2] rfl ?_
        exact h135 (s.1, (-s.2)) hf
    · have hf := (f_if hf).2 c12
      refine g_iload_n C dX6_goTick_119 rfl 1 rfl ?_
      refine g_goto (tgt := 135) C dX6_goTick_120 (by decide) ?_
      refine g_sub (lv2 := [(0, .ref (a 0))]) [2] rfl ?_
      exact h135 (s.1, s.2) hf
  have h60 : ∀ (K : (Md × Int32) → Option (Md)), (∀ s : Md × Int32, K s = some o → G E X 4 [md E a s.1] 0 0 [(0, .ref (a 0)), (1, .int s.2)] [] 24) → ∀ s : Md × Int32 × Int32 × Int32, b_X6_goTick_60 N V K s = some o → G E X 4 [md E a s.1] 0 0 [(0, .ref (a 0)), (1, .int s.2.1)] [.int s.2.2.2, .int s.2.2.1, .ref (a 1)] 60 := by
    intro K24 hK24 s hf
    unfold b_X6_goTick_60 at hf
    obtain ⟨i14, hf⟩ := ix_s hf
    refine g_iast (Y2 := [md E a ((upd s.1.1 (Int32.toNatClampNeg s.2.2.1) s.2.2.2), s.1.2.1, s.1.2.2.1, s.1.2.2.2.1, s.1.2.2.2.2.1, s.1.2.2.2.2.2.1, s.1.2.2.2.2.2.2.1, s.1.2.2.2.2.2.2.2.1, s.1.2.2.2.2.2.2.2.2.1, s.1.2.2.2.2.2.2.2.2.2.1, s.1.2.2.2.2.2.2.2.2.2.2.1, s.1.2.2.2.2.2.2.2.2.2.2.2.1, s.1.2.2.2.2.2.2.2.2.2.2.2.2.1, s.1.2.2.2.2.2.2.2.2.2.2.2.2.2)]) C 0 1 rfl rfl i14 dX6_goTick_60 rfl ?_
    refine g_iinc (v := (s.2.1 + (1 : Int32))) (lv2 := [(1, .int (s.2.1 + (1 : Int32))), (0, .ref (a 0))]) C dX6_goTick_61 1 rfl (ii (by decide)) (by decide) rfl ?_
    refine g_goto (tgt := 24) C dX6_goTick_64 (by decide) ?_
    refine g_sub (lv2 := [(0, .ref (a 0)), (1, .int (s.2.1 + (1 : Int32)))]) [1, 0] rfl ?_
    exact hK24 (((upd s.1.1 (Int32.toNatClampNeg s.2.2.1) s.2.2.2), s.1.2.1, s.1.2.2.1, s.1.2.2.2.1, s.1.2.2.2.2.1, s.1.2.2.2.2.2.1, s.1.2.2.2.2.2.2.1, s.1.2.2.2.2.2.2.2.1, s.1.2.2.2.2.2.2.2.2.1, s.1.2.2.2.2.2.2.2.2.2.1, s.1.2.2.2.2.2.2.2.2.2.2.1, s.1.2.2.2.2.2.2.2.2.2.2.2.1, s.1.2.2.2.2.2.2.2.2.2.2.2.2.1, s.1.2.2.2.2.2.2.2.2.2.2.2.2.2), (s.2.1 + (1 : Int32))) hf
  have h24 : ∀ (n : Nat) (s : Md × Int32), lp (b_X6_goTick_24 N V) n s = some o → G E X 4 [md E a s.1] 0 0 [(0, .ref (a 0)), (1, .int s.2)] [] 24 := lp_ind (by
    intro K24 hK24 s hf
    unfold b_X6_goTick_24 at hf
    refine g_iload_n C dX6_goTick_24 rfl 1 rfl ?_
    refine g_iconst (v := (4 : Int32)) C dX6_goTick_25 (by decide) ?_
    refine g_icmp_ge (tgt := 67) C dX6_goTick_26 (by decide) (fun c15 => ?_) (fun c15 => ?_)
    · have hf := (f_if hf).1 c15
      refine g_aload_n C dX6_goTick_67 rfl 0 rfl ?_
      obtain ⟨o16, h17, hf⟩ := bind_s hf
      refine g_callV (As := []) (rest := []) C k_X6_loadNow (fun l => c_X6_loadNow (E := E) (a := a) (V := s.1) h17 l) mt_717 [0] rfl (by decide) ⟨_, _, _, _, List.mem_flatten.mpr ⟨_, List.mem_of_getElem? (i := 0) rfl, List.mem_of_getElem? (i := 0) rfl⟩, rfl⟩ rfl (Nat.le_of_ble_eq_true rfl) ⟨Nat.le_of_ble_eq_true rfl, Nat.le_of_ble_eq_true rfl, Nat.le_of_ble_eq_true rfl, Nat.le_of_ble_eq_true rfl⟩ dX6_goTick_68 ?_
      rintro _ _ ⟨rfl, rfl⟩
      show G E X 4 [md E a s.1] 0 0 [(0, .ref (a 0)), (1, .int s.2)] [.int o16] 71
      refine g_aload_n C dX6_goTick_71 rfl 0 rfl ?_
      refine g_get (Cl := RX6) (T := TX6) (N := 14) C mi_X6 0 rfl (List.mem_of_getElem? (i := 0) rfl) rfl 0 (by decide) mt_589 rfl rfl dX6_goTick_72 ?_
      refine g_bipush (v := (6 : Int32)) C dX6_goTick_75 (by decide) ?_
      refine g_iald C 0 rfl (List.mem_of_getElem? (i := 1) rfl) (by show ¬ (_ ∨ _); decide) dX6_goTick_77 ?_
      refine g_icmp_le (tgt := 94) C dX6_goTick_78 (by decide) (fun c18 => ?_) (fun c18 => ?_)
      · have hf := (f_if hf).1 c18
        refine g_aload_n C dX6_goTick_94 rfl 0 rfl ?_
        refine g_get (Cl := RX6) (T := TX6) (N := 14) C mi_X6 0 rfl (List.mem_of_getElem? (i := 0) rfl) rfl 0 (by decide) mt_589 rfl rfl dX6_goTick_95 ?_
        refine g_iconst (v := (2 : Int32)) C dX6_goTick_98 (by decide) ?_
        refine g_iald C 0 rfl (List.mem_of_getElem? (i := 1) rfl) (by show ¬ (_ ∨ _); decide) dX6_goTick_99 ?_
        refine g_sub (lv2 := [(0, .ref (a 0))]) [0] rfl ?_
        exact h100 (s.1, (s.1.1 (Int32.toNatClampNeg (2 : Int32)))) hf
      · have hf := (f_if hf).2 c18
        refine g_aload_n C dX6_goTick_81 rfl 0 rfl ?_
        refine g_get (Cl := RX6) (T := TX6) (N := 14) C mi_X6 0 rfl (List.mem_of_getElem? (i := 0) rfl) rfl 0 (by decide) mt_589 rfl rfl dX6_goTick_82 ?_
        refine g_iconst (v := (2 : Int32)) C dX6_goTick_85 (by decide) ?_
        refine g_iald C 0 rfl (List.mem_of_getElem? (i := 1) rfl) (by show ¬ (_ ∨ _); decide) dX6_goTick_86 ?_
        refine g_iconst (v := (1 : Int32)) C dX6_goTick_87 (by decide) ?_
        refine g_iadd C dX6_goTick_88 ?_
        refine g_iconst (v := (2 : Int32)) C dX6_goTick_89 (by decide) ?_
        refine g_idiv C dX6_goTick_90 (by decide) ?_
        refine g_goto (tgt := 100) C dX6_goTick_91 (by decide) ?_
        refine g_sub (lv2 := [(0, .ref (a 0))]) [0] rfl ?_
        exact h100 (s.1, (((s.1.1 (Int32.toNatClampNeg (2 : Int32))) + (1 : Int32)) / (2 : Int32))) hf
    · have hf := (f_if hf).2 c15
      refine g_aload_n C dX6_goTick_29 rfl 0 rfl ?_
      refine g_get (Cl := RX6) (T := TX6) (N := 14) C mi_X6 0 rfl (List.mem_of_getElem? (i := 0) rfl) rfl 0 (by decide) mt_589 rfl rfl dX6_goTick_30 ?_
      refine g_bipush (v := (12 : Int32)) C dX6_goTick_33 (by decide) ?_
      refine g_iload_n C dX6_goTick_35 rfl 1 rfl ?_
      refine g_iadd C dX6_goTick_36 ?_
      refine g_aload_n C dX6_goTick_37 rfl 0 rfl ?_
      refine g_iload_n C dX6_goTick_38 rfl 1 rfl ?_
      obtain ⟨o19, h20, hf⟩ := bind_s hf
      refine g_callV (As := [.int s.2]) (rest := [.int ((12 : Int32) + s.2), .ref (a 1)]) C k_X6_disagrees (fun l => c_X6_disagrees (E := E) (a := a) (V := s.1) h20 l) mt_746 [0] rfl (by decide) ⟨_, _, _, _, List.mem_flatten.mpr ⟨_, List.mem_of_getElem? (i := 0) rfl, List.mem_of_getElem? (i := 0) rfl⟩, rfl⟩ rfl (Nat.le_of_ble_eq_true rfl) ⟨Nat.le_of_ble_eq_true rfl, Nat.le_of_ble_eq_true rfl, Nat.le_of_ble_eq_true rfl, Nat.le_of_ble_eq_true rfl⟩ dX6_goTick_39 ?_
      rintro _ _ ⟨rfl, rfl⟩
      show G E X 4 [md E a s.1] 0 0 [(0, .ref (a 0)), (1, .int s.2)] [.int o19, .int ((12 : Int32) + s.2), .ref (a 1)] 42
      refine g_if_eq (tgt := 59) C dX6_goTick_42 (by decide) (fun c21 => ?_) (fun c21 => ?_)
      · have hf := (f_if hf).1 c21
        refine g_iconst (v := (0 : Int32)) C dX6_goTick_59 (by decide) ?_
        exact h60 _ hK24 (s.1, s.2, ((12 : Int32) + s.2), (0 : Int32)) hf
      · have hf := (f_if hf).2 c21
        refine g_aload_n C dX6_goTick_45 rfl 0 rfl ?_
        refine g_get (Cl := RX6) (T := TX6) (N := 14) C mi_X6 0 rfl (List.mem_of_getElem? (i := 0) rfl) rfl 0 (by decide) mt_589 rfl rfl dX6_goTick_46 ?_
        refine g_bipush (v := (12 : Int32)) C dX6_goTick_49 (by decide) ?_
        refine g_iload_n C dX6_goTick_51 rfl 1 rfl ?_
        refine g_iadd C dX6_goTick_52 ?_
        obtain ⟨i22, hf⟩ := ix_s hf
        refine g_iald C 0 rfl (List.mem_of_getElem? (i := 1) rfl) i22 dX6_goTick_53 ?_
        refine g_iconst (v := (1 : Int32)) C dX6_goTick_54 (by decide) ?_
        refine g_iadd C dX6_goTick_55 ?_
        refine g_goto (tgt := 60) C dX6_goTick_56 (by decide) ?_
        exact h60 _ hK24 (s.1, s.2, ((12 : Int32) + s.2), ((s.1.1 (Int32.toNatClampNeg ((12 : Int32) + s.2))) + (1 : Int32))) hf)
  have h22 : ∀ s : Md, b_X6_goTick_22 N V s = some o → G E X 4 [md E a s] 0 0 [(0, .ref (a 0))] [] 22 := by
    intro s hf
    unfold b_X6_goTick_22 at hf
    refine g_iconst (v := (0 : Int32)) C dX6_goTick_22 (by decide) ?_
    refine g_istore_n (lv2 := [(1, .int (0 : Int32)), (0, .ref (a 0))]) C dX6_goTick_23 rfl (by decide) rfl ?_
    refine g_sub (lv2 := [(0, .ref (a 0)), (1, .int (0 : Int32))]) [1, 0] rfl ?_
    exact h24 N (s, (0 : Int32)) hf
  unfold f_X6_goTick at hf
  refine g_aload_n C dX6_goTick_0 rfl 0 rfl ?_
  refine g_get (Cl := RX6) (T := TX6) (N := 14) C mi_X6 0 rfl (List.mem_of_getElem? (i := 0) rfl) rfl 0 (by decide) mt_589 rfl rfl dX6_goTick_1 ?_
  refine g_bipush (v := (9 : Int32)) C dX6_goTick_4 (by decide) ?_
  refine g_iald C 0 rfl (List.mem_of_getElem? (i := 1) rfl) (by show ¬ (_ ∨ _); decide) dX6_goTick_6 ?_
  refine g_if_ne (tgt := 22) C dX6_goTick_7 (by decide) (fun c23 => ?_) (fun c23 => ?_)
  · have hf := (f_if hf).2 c23
    exact h22 V hf
  · have hf := (f_if hf).1 c23
    refine g_aload_n C dX6_goTick_10 rfl 0 rfl ?_
    obtain ⟨o24, h25, hf⟩ := bind_s hf
    refine g_callV (As := []) (rest := []) C k_X6_holdsNow (fun l => c_X6_holdsNow (E := E) (a := a) (V := V) h25 l) mt_729 [0] rfl (by decide) ⟨_, _, _, _, List.mem_flatten.mpr ⟨_, List.mem_of_getElem? (i := 0) rfl, List.mem_of_getElem? (i := 0) rfl⟩, rfl⟩ rfl (Nat.le_of_ble_eq_true rfl) ⟨Nat.le_of_ble_eq_true rfl, Nat.le_of_ble_eq_true rfl, Nat.le_of_ble_eq_true rfl, Nat.le_of_ble_eq_true rfl⟩ dX6_goTick_11 ?_
    rintro _ _ ⟨rfl, rfl⟩
    show G E X 4 [md E a o24.2] 0 0 [(0, .ref (a 0))] [.int o24.1] 14
    refine g_if_eq (tgt := 22) C dX6_goTick_14 (by decide) (fun c26 => ?_) (fun c26 => ?_)
    · have hf := (f_if hf).1 c26
      exact h22 o24.2 hf
    · have hf := (f_if hf).2 c26
      refine g_aload_n C dX6_goTick_17 rfl 0 rfl ?_
      refine g_iconst (v := (0 : Int32)) C dX6_goTick_18 (by decide) ?_
      obtain ⟨o27, h28, hf⟩ := bind_s hf
      refine g_callV (As := [.int (0 : Int32)]) (rest := []) C k_X6_halt (fun l => c_X6_halt (E := E) (a := a) (V := o24.2) h28 l) mt_713 [0] rfl (by decide) ⟨_, _, _, _, List.mem_flatten.mpr ⟨_, List.mem_of_getElem? (i := 0) rfl, List.mem_of_getElem? (i := 0) rfl⟩, rfl⟩ rfl (Nat.le_of_ble_eq_true rfl) ⟨Nat.le_of_ble_eq_true rfl, Nat.le_of_ble_eq_true rfl, Nat.le_of_ble_eq_true rfl, Nat.le_of_ble_eq_true rfl⟩ dX6_goTick_19 ?_
      rintro _ _ ⟨rfl, rfl⟩
      show G E X 4 [md E a o27] 0 0 [(0, .ref (a 0))] [] 22
      exact h22 o27 hf
