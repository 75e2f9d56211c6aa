def b_X3_isIn_15 (R : Ru) (p0 : Int64) (p1 : Int32) (s : Int32) : Option (Int32) := (zb s (some s))
def f_X3_isIn (R : Ru) (p0 : Int64) (p1 : Int32) : Option (Int32) := (if (lg_cmp ((p0 >>> (Int32.toInt64 p1 &&& 63)) &&& (1 : Int64)) (0 : Int64)) = 0 then b_X3_isIn_15 R p0 p1 (0 : Int32) else b_X3_isIn_15 R p0 p1 (1 : Int32))
abbrev rm_X3_isIn : Room := { frames := 0, cells := 0, slots := 0, locals := 0 }
set_option maxRecDepth 100000 in
theorem k_X3_isIn : CF yX3_isIn cX3_isIn 4 (some .boolean) 2 := ⟨mt_380, mp_12, mt_8, mt_381, ⟨rfl, by decide +kernel, by decide +kernel, by decide +kernel⟩⟩
set_option maxHeartbeats 4000000 in
set_option maxRecDepth 100000 in
theorem c_X3_isIn {E : Ev} {g : va_W} {r : Nat} {b : Nat → Nat} {R : Ru} (hg : ∀ c ∈ ru E r b R, c ∈ g) {p0 : Int64} {p1 : Int32} {o : Int32} (hf : f_X3_isIn R p0 p1 = some o) : ∀ l, MG l yX3_isIn cX3_isIn 4 (some .boolean) rm_X3_isIn E [.ref r, .long p0, .int p1] [g] (fun v Y => v = some (.int o) ∧ Y = [g]) := by
  refine MG.mk (own := RX3) (lv0 := [(0, .ref r), (1, .long p0), (3, .int p1)]) (by decide) rfl (Nat.le_of_ble_eq_true rfl) rfl (fun X C K I => ?_)
  have h15 : ∀ s : Int32, b_X3_isIn_15 R p0 p1 s = some o → G E X 4 [g] 0 0 [] [.int s] 15 := by
    intro s hf
    unfold b_X3_isIn_15 at hf
    obtain ⟨z1, hf⟩ := zb_s hf
    obtain rfl := Option.some.inj hf
    exact g_zret C K z1 dX3_isIn_15 (Nat.le_of_ble_eq_true rfl) (Nat.le_of_ble_eq_true rfl) ⟨rfl, rfl⟩
  unfold f_X3_isIn at hf
  refine g_lload_n C dX3_isIn_0 rfl 1 rfl ?_
  refine g_iload_n C dX3_isIn_1 rfl 2 rfl ?_
  refine g_lshr C dX3_isIn_2 ?_
  refine g_lconst (v := (1 : Int64)) C dX3_isIn_3 (by decide) ?_
  refine g_land C dX3_isIn_4 ?_
  refine g_lconst (v := (0 : Int64)) C dX3_isIn_5 (by decide) ?_
  refine g_lcmp C dX3_isIn_6 ?_
  refine g_if_eq (tgt := 14) C dX3_isIn_7 (by decide) (fun c2 => ?_) (fun c2 => ?_)
  · have hf := (f_if hf).1 c2
    refine g_iconst (v := (0 : Int32)) C dX3_isIn_14 (by decide) ?_
    refine g_sub (lv2 := []) [] rfl ?_
    exact h15 (0 : Int32) hf
  · have hf := (f_if hf).2 c2
    refine g_iconst (v := (1 : Int32)) C dX3_isIn_10 (by decide) ?_
    refine g_goto (tgt := 15) C dX3_isIn_11 (by decide) ?_
    refine g_sub (lv2 := []) [] rfl ?_
    exact h15 (1 : Int32) hf
def b_X3_letterNumber_19 (R : Ru) (p0 : Int32) (s : Int32) : Option (Int32) := some s
def f_X3_letterNumber (R : Ru) (p0 : Int32) : Option (Int32) := (if p0 < (97 : Int32) then b_X3_letterNumber_19 R p0 ((p0 - (65 : Int32)) + (4 : Int32)) else b_X3_letterNumber_19 R p0 (p0 - (97 : Int32)))
abbrev rm_X3_letterNumber : Room := { frames := 0, cells := 0, slots := 0, locals := 0 }
set_option maxRecDepth 100000 in
theorem k_X3_letterNumber : CF yX3_letterNumber cX3_letterNumber 2 (some .int) 1 := ⟨mt_198, mp_9, mt_8, mt_199, ⟨rfl, by decide +kernel, by decide +kernel, by decide +kernel⟩⟩
set_option maxHeartbeats 4000000 in
set_option maxRecDepth 100000 in
theorem c_X3_letterNumber {E : Ev} {g : va_W} {r : Nat} {b : Nat → Nat} {R : Ru} (hg : ∀ c ∈ ru E r b R, c ∈ g) {p0 : Int32} {o : Int32} (hf : f_X3_letterNumber R p0 = some o) : ∀ l, MG l yX3_letterNumber cX3_letterNumber 2 (some .int) rm_X3_letterNumber E [.ref r, .int p0] [g] (fun v Y => v = some (.int o) ∧ Y = [g]) := by
  refine MG.mk (own := RX3) (lv0 := [(0, .ref r), (1, .int p0)]) (by decide) rfl (Nat.le_of_ble_eq_true rfl) rfl (fun X C K I => ?_)
  have h19 : ∀ s : Int32, b_X3_letterNumber_19 R p0 s = some o → G E X 2 [g] 0 0 [] [.int s] 19 := by
    intro s hf
    unfold b_X3_letterNumber_19 at hf
    obtain rfl := Option.some.inj hf
    exact g_iret C K dX3_letterNumber_19 (Nat.le_of_ble_eq_true rfl) (Nat.le_of_ble_eq_true rfl) ⟨rfl, rfl⟩
  unfold f_X3_letterNumber at hf
  refine g_iload_n C dX3_letterNumber_0 rfl 1 rfl ?_
  refine g_bipush (v := (97 : Int32)) C dX3_letterNumber_1 (by decide) ?_
  refine g_icmp_lt (tgt := 13) C dX3_letterNumber_3 (by decide) (fun c1 => ?_) (fun c1 => ?_)
  · have hf := (f_if hf).1 c1
    refine g_iload_n C dX3_letterNumber_13 rfl 1 rfl ?_
    refine g_bipush (v := (65 : Int32)) C dX3_letterNumber_14 (by decide) ?_
    refine g_isub C dX3_letterNumber_16 ?_
    refine g_iconst (v := (4 : Int32)) C dX3_letterNumber_17 (by decide) ?_
    refine g_iadd C dX3_letterNumber_18 ?_
    refine g_sub (lv2 := []) [] rfl ?_
    exact h19 ((p0 - (65 : Int32)) + (4 : Int32)) hf
  · have hf := (f_if hf).2 c1
    refine g_iload_n C dX3_letterNumber_6 rfl 1 rfl ?_
    refine g_bipush (v := (97 : Int32)) C dX3_letterNumber_7 (by decide) ?_
    refine g_isub C dX3_letterNumber_9 ?_
    refine g_goto (tgt := 19) C dX3_letterNumber_10 (by decide) ?_
    refine g_sub (lv2 := []) [] rfl ?_
    exact h19 (p0 - (97 : Int32)) hf
def b_X3_letterHolds_42 (R : Ru) (p0 : Int32) (p1 : Int32) (s : Int32) : Option (Int32) := (zb s (some s))
def f_X3_letterHolds (R : Ru) (p0 : Int32) (p1 : Int32) : Option (Int32) := (if (4 : Int32) ≤ p0 then (if ((p1 >>> (((2 : Int32) * (p0 - p0 / (4 : Int32) * (4 : Int32))) &&& 31)) &&& (3 : Int32)) = (3 : Int32) then b_X3_letterHolds_42 R p0 p1 (1 : Int32) else b_X3_letterHolds_42 R p0 p1 (0 : Int32)) else (if ((p1 >>> (((2 : Int32) * (p0 - p0 / (4 : Int32) * (4 : Int32))) &&& 31)) &&& (3 : Int32)) = 0 then b_X3_letterHolds_42 R p0 p1 (0 : Int32) else b_X3_letterHolds_42 R p0 p1 (1 : Int32)))
abbrev rm_X3_letterHolds : Room := { frames := 0, cells := 0, slots := 0, locals := 0 }
set_option maxRecDepth 100000 in
theorem k_X3_letterHolds : CF yX3_letterHolds cX3_letterHolds 5 (some .boolean) 2 := ⟨mt_384, mp_13, mt_8, mt_385, ⟨rfl, by decide +kernel, by decide +kernel, by decide +kernel⟩⟩
set_option maxHeartbeats 4000000 in
set_option maxRecDepth 100000 in
theorem c_X3_letterHolds {E : Ev} {g : va_W} {r : Nat} {b : Nat → Nat} {R : Ru} (hg : ∀ c ∈ ru E r b R, c ∈ g) {p0 : Int32} {p1 : Int32} {o : Int32} (hf : f_X3_letterHolds R p0 p1 = some o) : ∀ l, MG l yX3_letterHolds cX3_letterHolds 5 (some .boolean) rm_X3_letterHolds E [.ref r, .int p0, .int p1] [g] (fun v Y => v = some (.int o) ∧ Y = [g]) := by
  refine MG.mk (own := RX3) (lv0 := [(0, .ref r), (1, .int p0), (2, .int p1)]) (by decide) rfl (Nat.le_of_ble_eq_true rfl) rfl (fun X C K I => ?_)
  have h42 : ∀ s : Int32, b_X3_letterHolds_42 R p0 p1 s = some o → G E X 5 [g] 0 0 [] [.int s] 42 := by
    intro s hf
    unfold b_X3_letterHolds_42 at hf
    obtain ⟨z1, hf⟩ := zb_s hf
    obtain rfl := Option.some.inj hf
    exact g_zret C K z1 dX3_letterHolds_42 (Nat.le_of_ble_eq_true rfl) (Nat.le_of_ble_eq_true rfl) ⟨rfl, rfl⟩
  unfold f_X3_letterHolds at hf
  refine g_iload_n C dX3_letterHolds_0 rfl 1 rfl ?_
  refine g_iconst (v := (4 : Int32)) C dX3_letterHolds_1 (by decide) ?_
  refine g_irem C dX3_letterHolds_2 (by decide) ?_
  refine g_istore_n (lv2 := [(3, .int (p0 - p0 / (4 : Int32) * (4 : Int32))), (0, .ref r), (1, .int p0), (2, .int p1)]) C dX3_letterHolds_3 rfl (by decide) rfl ?_
  refine g_iload_n C dX3_letterHolds_4 rfl 3 rfl ?_
  refine g_iconst (v := (2 : Int32)) C dX3_letterHolds_5 (by decide) ?_
  refine g_iload_n C dX3_letterHolds_6 rfl 0 rfl ?_
  refine g_imul C dX3_letterHolds_7 ?_
  refine g_ishr C dX3_letterHolds_8 ?_
  refine g_iconst (v := (3 : Int32)) C dX3_letterHolds_9 (by decide) ?_
  refine g_iand C dX3_letterHolds_10 ?_
  refine g_istore (lv2 := [(4, .int ((p1 >>> (((2 : Int32) * (p0 - p0 / (4 : Int32) * (4 : Int32))) &&& 31)) &&& (3 : Int32))), (3, .int (p0 - p0 / (4 : Int32) * (4 : Int32))), (0, .ref r), (1, .int p0), (2, .int p1)]) C dX3_letterHolds_11 (by decide) rfl ?_
  refine g_iload_n C dX3_letterHolds_13 rfl 3 rfl ?_
  refine g_iconst (v := (4 : Int32)) C dX3_letterHolds_14 (by decide) ?_
  refine g_icmp_ge (tgt := 31) C dX3_letterHolds_15 (by decide) (fun c2 => ?_) (fun c2 => ?_)
  · have hf := (f_if hf).1 c2
    refine g_iload C dX3_letterHolds_31 0 rfl ?_
    refine g_iconst (v := (3 : Int32)) C dX3_letterHolds_33 (by decide) ?_
    refine g_icmp_ne (tgt := 41) C dX3_letterHolds_34 (by decide) (fun c3 => ?_) (fun c3 => ?_)
    · have hf := (f_if hf).2 c3
      refine g_iconst (v := (0 : Int32)) C dX3_letterHolds_41 (by decide) ?_
      refine g_sub (lv2 := []) [] rfl ?_
      exact h42 (0 : Int32) hf
    · have hf := (f_if hf).1 c3
      refine g_iconst (v := (1 : Int32)) C dX3_letterHolds_37 (by decide) ?_
      refine g_goto (tgt := 42) C dX3_letterHolds_38 (by decide) ?_
      refine g_sub (lv2 := []) [] rfl ?_
      exact h42 (1 : Int32) hf
  · have hf := (f_if hf).2 c2
    refine g_iload C dX3_letterHolds_18 0 rfl ?_
    refine g_if_eq (tgt := 27) C dX3_letterHolds_20 (by decide) (fun c4 => ?_) (fun c4 => ?_)
    · have hf := (f_if hf).1 c4
      refine g_iconst (v := (0 : Int32)) C dX3_letterHolds_27 (by decide) ?_
      refine g_goto (tgt := 42) C dX3_letterHolds_28 (by decide) ?_
      refine g_sub (lv2 := []) [] rfl ?_
      exact h42 (0 : Int32) hf
    · have hf := (f_if hf).2 c4
      refine g_iconst (v := (1 : Int32)) C dX3_letterHolds_23 (by decide) ?_
      refine g_goto (tgt := 42) C dX3_letterHolds_24 (by decide) ?_
      refine g_sub (lv2 := []) [] rfl ?_
      exact h42 (1 : Int32) hf
def b_X3_partHolds_110 (R : Ru) (p0 : Int32) (p1 : Int32) (p2 : Int64) (s : Int32) : Option (Int32) := (zb s (some s))
def b_X3_partHolds_105 (R : Ru) (p0 : Int32) (p1 : Int32) (p2 : Int64) (s : Unit) : Option (Int32) := b_X3_partHolds_110 R p0 p1 p2 (1 : Int32)
def b_X3_partHolds_94 (R : Ru) (p0 : Int32) (p1 : Int32) (p2 : Int64) (s : Int32) : Option (Int32) := (zb s (some s))
def b_X3_partHolds_93 (R : Ru) (p0 : Int32) (p1 : Int32) (p2 : Int64) (s : Unit) : Option (Int32) := b_X3_partHolds_94 R p0 p1 p2 (0 : Int32)
def b_X3_partHolds_78 (R : Ru) (p0 : Int32) (p1 : Int32) (p2 : Int64) (s : Int32) : Option (Int32) := (zb s (some s))
def f_X3_partHolds (R : Ru) (p0 : Int32) (p1 : Int32) (p2 : Int64) : Option (Int32) := (ix p0 60 ((f_X3_isIn R p2 (R.2.1 (Int32.toNatClampNeg p0))).bind fun o5 => (ix p0 60 ((f_X3_isIn R p2 (R.2.2.1 (Int32.toNatClampNeg p0))).bind fun o8 => (ix p0 60 (if (R.1 (Int32.toNatClampNeg p0)) = (33 : Int32) then (if o5 = 0 then b_X3_partHolds_78 R p0 p1 p2 (1 : Int32) else b_X3_partHolds_78 R p0 p1 p2 (0 : Int32)) else (if (R.1 (Int32.toNatClampNeg p0)) = (38 : Int32) then (if o5 = 0 then b_X3_partHolds_93 R p0 p1 p2 () else (if o8 = 0 then b_X3_partHolds_93 R p0 p1 p2 () else b_X3_partHolds_94 R p0 p1 p2 (1 : Int32))) else (if (R.1 (Int32.toNatClampNeg p0)) = (124 : Int32) then (if o5 = 0 then (if o8 = 0 then b_X3_partHolds_110 R p0 p1 p2 (0 : Int32) else b_X3_partHolds_105 R p0 p1 p2 ()) else b_X3_partHolds_105 R p0 p1 p2 ()) else (ix p0 60 ((f_X3_letterNumber R (R.1 (Int32.toNatClampNeg p0))).bind fun o20 => ((f_X3_letterHolds R o20 p1).bind fun o22 => (zb o22 (some o22)))))))))))))
abbrev rm_X3_partHolds : Room := { frames := 1, cells := 0, slots := 0, locals := 24 }
set_option maxRecDepth 100000 in
theorem k_X3_partHolds : CF yX3_partHolds cX3_partHolds 7 (some .boolean) 3 := ⟨mt_376, mp_11, mt_8, mt_377, ⟨rfl, by decide +kernel, by decide +kernel, by decide +kernel⟩⟩
set_option maxHeartbeats 4000000 in
set_option maxRecDepth 100000 in
theorem c_X3_partHolds {E : Ev} {g : va_W} {r : Nat} {b : Nat → Nat} {R : Ru} (hg : ∀ c ∈ ru E r b R, c ∈ g) {p0 : Int32} {p1 : Int32} {p2 : Int64} {o : Int32} (hf : f_X3_partHolds R p0 p1 p2 = some o) : ∀ l, MG l yX3_partHolds cX3_partHolds 7 (some .boolean) rm_X3_partHolds E [.ref r, .int p0, .int p1, .long p2] [g] (fun v Y => v = some (.int o) ∧ Y = [g]) := by
  refine MG.mk (own := RX3) (lv0 := [(0, .ref r), (1, .int p0), (2, .int p1), (3, .long p2)]) (by decide) rfl (Nat.le_of_ble_eq_true rfl) rfl (fun X C K I => ?_)
  have h110 : ∀ s : Int32, b_X3_partHolds_110 R p0 p1 p2 s = some o → G E X 7 [g] 0 0 [] [.int s] 110 := by
    intro s hf
    unfold b_X3_partHolds_110 at hf
    obtain ⟨z1, hf⟩ := zb_s hf
    obtain rfl := Option.some.inj hf
    exact g_zret C K z1 dX3_partHolds_110 (Nat.le_of_ble_eq_true rfl) (Nat.le_of_ble_eq_true rfl) ⟨rfl, rfl⟩
  have h105 : ∀ s : Unit, b_X3_partHolds_105 R p0 p1 p2 s = some o → G E X 7 [g] 0 0 [] [] 105 := by
    intro s hf
    unfold b_X3_partHolds_105 at hf
    refine g_iconst (v := (1 : Int32)) C dX3_partHolds_105 (by decide) ?_
    refine g_goto (tgt := 110) C dX3_partHolds_106 (by decide) ?_
    exact h110 (1 : Int32) hf
  have h94 : ∀ s : Int32, b_X3_partHolds_94 R p0 p1 p2 s = some o → G E X 7 [g] 0 0 [] [.int s] 94 := by
    intro s hf
    unfold b_X3_partHolds_94 at hf
    obtain ⟨z2, hf⟩ := zb_s hf
    obtain rfl := Option.some.inj hf
    exact g_zret C K z2 dX3_partHolds_94 (Nat.le_of_ble_eq_true rfl) (Nat.le_of_ble_eq_true rfl) ⟨rfl, rfl⟩
  have h93 : ∀ s : Unit, b_X3_partHolds_93 R p0 p1 p2 s = some o → G E X 7 [g] 0 0 [] [] 93 := by
    intro s hf
    unfold b_X3_partHolds_93 at hf
    refine g_iconst (v := (0 : Int32)) C dX3_partHolds_93 (by decide) ?_
    exact h94 (0 : Int32) hf
  have h78 : ∀ s : Int32, b_X3_partHolds_78 R p0 p1 p2 s = some o → G E X 7 [g] 0 0 [] [.int s] 78 := by
    intro s hf
    unfold b_X3_partHolds_78 at hf
    obtain ⟨z3, hf⟩ := zb_s hf
    obtain rfl := Option.some.inj hf
    exact g_zret C K z3 dX3_partHolds_78 (Nat.le_of_ble_eq_true rfl) (Nat.le_of_ble_eq_true rfl) ⟨rfl, rfl⟩
  unfold f_X3_partHolds at hf
  refine g_aload_n C dX3_partHolds_0 rfl 0 rfl ?_
  refine g_lload_n C dX3_partHolds_1 rfl 3 rfl ?_
  refine g_aload_n C dX3_partHolds_2 rfl 0 rfl ?_
  refine g_get (Cl := RX3) (T := TX3) (N := 6) C mi_X3 0 rfl (hg _ (List.mem_of_getElem? (l := ru E r b R) (i := 0) rfl)) rfl 1 (by decide) mt_126 rfl rfl dX3_partHolds_3 ?_
  refine g_iload_n C dX3_partHolds_6 rfl 1 rfl ?_
  obtain ⟨i4, hf⟩ := ix_s hf
  refine g_iald C 0 rfl (hg _ (List.mem_of_getElem? (l := ru E r b R) (i := 2) rfl)) i4 dX3_partHolds_7 ?_
  obtain ⟨o5, hq6, hf⟩ := bind_s hf
  refine g_callV (As := [.long p2, .int (R.2.1 (Int32.toNatClampNeg p0))]) (rest := []) C k_X3_isIn (fun l => c_X3_isIn (E := E) (g := g) (r := r) (b := b) (R := R) hg hq6 l) mt_378 [0] rfl (by decide) ⟨_, _, _, _, List.mem_flatten.mpr ⟨_, List.mem_of_getElem? (i := 0) rfl, hg _ (List.mem_of_getElem? (l := ru E r b R) (i := 0) rfl)⟩, rfl⟩ rfl (Nat.le_of_ble_eq_true rfl) ⟨Nat.le_of_ble_eq_true rfl, Nat.le_of_ble_eq_true rfl, Nat.le_of_ble_eq_true rfl, Nat.le_of_ble_eq_true rfl⟩ dX3_partHolds_8 ?_
  rintro _ _ ⟨rfl, rfl⟩
  show G E X 7 [g] 0 0 [(0, .ref r), (1, .int p0), (2, .int p1), (3, .long p2)] [.int o5] 11
  refine g_istore (lv2 := [(5, .int o5), (0, .ref r), (1, .int p0), (2, .int p1), (3, .long p2)]) C dX3_partHolds_11 (by decide) rfl ?_
  refine g_aload_n C dX3_partHolds_13 rfl 1 rfl ?_
  refine g_lload_n C dX3_partHolds_14 rfl 4 rfl ?_
  refine g_aload_n C dX3_partHolds_15 rfl 1 rfl ?_
  refine g_get (Cl := RX3) (T := TX3) (N := 6) C mi_X3 0 rfl (hg _ (List.mem_of_getElem? (l := ru E r b R) (i := 0) rfl)) rfl 2 (by decide) mt_127 rfl rfl dX3_partHolds_16 ?_
  refine g_iload_n C dX3_partHolds_19 rfl 2 rfl ?_
  obtain ⟨i7, hf⟩ := ix_s hf
  refine g_iald C 0 rfl (hg _ (List.mem_of_getElem? (l := ru E r b R) (i := 3) rfl)) i7 dX3_partHolds_20 ?_
  obtain ⟨o8, hq9, hf⟩ := bind_s hf
  refine g_callV (As := [.long p2, .int (R.2.2.1 (Int32.toNatClampNeg p0))]) (rest := []) C k_X3_isIn (fun l => c_X3_isIn (E := E) (g := g) (r := r) (b := b) (R := R) hg hq9 l) mt_378 [0] rfl (by decide) ⟨_, _, _, _, List.mem_flatten.mpr ⟨_, List.mem_of_getElem? (i := 0) rfl, hg _ (List.mem_of_getElem? (l := ru E r b R) (i := 0) rfl)⟩, rfl⟩ rfl (Nat.le_of_ble_eq_true rfl) ⟨Nat.le_of_ble_eq_true rfl, Nat.le_of_ble_eq_true rfl, Nat.le_of_ble_eq_true rfl, Nat.le_of_ble_eq_true rfl⟩ dX3_partHolds_21 ?_
  rintro _ _ ⟨rfl, rfl⟩
  show G E X 7 [g] 0 0 [(5, .int o5), (0, .ref r), (1, .int p0), (2, .int p1), (3, .long p2)] [.int o8] 24
  refine g_istore (lv2 := [(6, .int o8), (5, .int o5), (0, .ref r), (1, .int p0), (2, .int p1), (3, .long p2)]) C dX3_partHolds_24 (by decide) rfl ?_
  refine g_aload_n C dX3_partHolds_26 rfl 2 rfl ?_
  refine g_get (Cl := RX3) (T := TX3) (N := 6) C mi_X3 0 rfl (hg _ (List.mem_of_getElem? (l := ru E r b R) (i := 0) rfl)) rfl 0 (by decide) mt_125 rfl rfl dX3_partHolds_27 ?_
  refine g_iload_n C dX3_partHolds_30 rfl 3 rfl ?_
  obtain ⟨i10, hf⟩ := ix_s hf
  refine g_cald C 0 rfl (hg _ (List.mem_of_getElem? (l := ru E r b R) (i := 1) rfl)) i10 dX3_partHolds_31 ?_
  by_cases c11 : (R.1 (Int32.toNatClampNeg p0)) = (33 : Int32)
  · have hf := (f_if hf).1 c11
    refine g_lookup (tgt := 68) C dX3_partHolds_32 (by decide) (by rw [c11] <;> rfl) (by decide) ?_
    refine g_iload C dX3_partHolds_68 1 rfl ?_
    refine g_if_ne (tgt := 77) C dX3_partHolds_70 (by decide) (fun c12 => ?_) (fun c12 => ?_)
    · have hf := (f_if hf).2 c12
      refine g_iconst (v := (0 : Int32)) C dX3_partHolds_77 (by decide) ?_
      refine g_sub (lv2 := []) [] rfl ?_
      exact h78 (0 : Int32) hf
    · have hf := (f_if hf).1 c12
      refine g_iconst (v := (1 : Int32)) C dX3_partHolds_73 (by decide) ?_
      refine g_goto (tgt := 78) C dX3_partHolds_74 (by decide) ?_
      refine g_sub (lv2 := []) [] rfl ?_
      exact h78 (1 : Int32) hf
  have hf := (f_if hf).2 c11
  by_cases c13 : (R.1 (Int32.toNatClampNeg p0)) = (38 : Int32)
  · have hf := (f_if hf).1 c13
    refine g_lookup (tgt := 79) C dX3_partHolds_32 (by decide) (by rw [c13] <;> rfl) (by decide) ?_
    refine g_iload C dX3_partHolds_79 1 rfl ?_
    refine g_if_eq (tgt := 93) C dX3_partHolds_81 (by decide) (fun c14 => ?_) (fun c14 => ?_)
    · have hf := (f_if hf).1 c14
      refine g_sub (lv2 := []) [] rfl ?_
      exact h93 () hf
    · have hf := (f_if hf).2 c14
      refine g_iload C dX3_partHolds_84 0 rfl ?_
      refine g_if_eq (tgt := 93) C dX3_partHolds_86 (by decide) (fun c15 => ?_) (fun c15 => ?_)
      · have hf := (f_if hf).1 c15
        refine g_sub (lv2 := []) [] rfl ?_
        exact h93 () hf
      · have hf := (f_if hf).2 c15
        refine g_iconst (v := (1 : Int32)) C dX3_partHolds_89 (by decide) ?_
        refine g_goto (tgt := 94) C dX3_partHolds_90 (by decide) ?_
        refine g_sub (lv2 := []) [] rfl ?_
        exact h94 (1 : Int32) hf
  have hf := (f_if hf).2 c13
  by_cases c16 : (R.1 (Int32.toNatClampNeg p0)) = (124 : Int32)
  · have hf := (f_if hf).1 c16
    refine g_lookup (tgt := 95) C dX3_partHolds_32 (by decide) (by rw [c16] <;> rfl) (by decide) ?_
    refine g_iload C dX3_partHolds_95 1 rfl ?_
    refine g_if_ne (tgt := 105) C dX3_partHolds_97 (by decide) (fun c17 => ?_) (fun c17 => ?_)
    · have hf := (f_if hf).2 c17
      refine g_sub (lv2 := []) [] rfl ?_
      exact h105 () hf
    · have hf := (f_if hf).1 c17
      refine g_iload C dX3_partHolds_100 0 rfl ?_
      refine g_if_eq (tgt := 109) C dX3_partHolds_102 (by decide) (fun c18 => ?_) (fun c18 => ?_)
      · have hf := (f_if hf).1 c18
        refine g_iconst (v := (0 : Int32)) C dX3_partHolds_109 (by decide) ?_
        refine g_sub (lv2 := []) [] rfl ?_
        exact h110 (0 : Int32) hf
      · have hf := (f_if hf).2 c18
        refine g_sub (lv2 := []) [] rfl ?_
        exact h105 () hf
  have hf := (f_if hf).2 c16
  refine g_lookup (tgt := 111) (off := 79) C dX3_partHolds_32 (by decide) (by show Op.lookupswitch.offset [(33, 36), (38, 47), (124, 63)] _ _ = _; rw [lv_osw (a := 33) c11 rfl, lv_osw (a := 38) c13 rfl, lv_osw (a := 124) c16 rfl] <;> rfl) (by decide) ?_
  refine g_aload_n C dX3_partHolds_111 rfl 2 rfl ?_
  refine g_aload_n C dX3_partHolds_112 rfl 2 rfl ?_
  refine g_aload_n C dX3_partHolds_113 rfl 2 rfl ?_
  refine g_get (Cl := RX3) (T := TX3) (N := 6) C mi_X3 0 rfl (hg _ (List.mem_of_getElem? (l := ru E r b R) (i := 0) rfl)) rfl 0 (by decide) mt_125 rfl rfl dX3_partHolds_114 ?_
  refine g_iload_n C dX3_partHolds_117 rfl 3 rfl ?_
  obtain ⟨i19, hf⟩ := ix_s hf
  refine g_cald C 0 rfl (hg _ (List.mem_of_getElem? (l := ru E r b R) (i := 1) rfl)) i19 dX3_partHolds_118 ?_
  obtain ⟨o20, hq21, hf⟩ := bind_s hf
  refine g_callV (As := [.int (R.1 (Int32.toNatClampNeg p0))]) (rest := [.ref r]) C k_X3_letterNumber (fun l => c_X3_letterNumber (E := E) (g := g) (r := r) (b := b) (R := R) hg hq21 l) mt_196 [0] rfl (by decide) ⟨_, _, _, _, List.mem_flatten.mpr ⟨_, List.mem_of_getElem? (i := 0) rfl, hg _ (List.mem_of_getElem? (l := ru E r b R) (i := 0) rfl)⟩, rfl⟩ rfl (Nat.le_of_ble_eq_true rfl) ⟨Nat.le_of_ble_eq_true rfl, Nat.le_of_ble_eq_true rfl, Nat.le_of_ble_eq_true rfl, Nat.le_of_ble_eq_true rfl⟩ dX3_partHolds_119 ?_
  rintro _ _ ⟨rfl, rfl⟩
  show G E X 7 [g] 0 0 [(6, .int o8), (5, .int o5), (0, .ref r), (1, .int p0), (2, .int p1), (3, .long p2)] [.int o20, .ref r] 122
  refine g_iload_n C dX3_partHolds_122 rfl 4 rfl ?_
  obtain ⟨o22, hq23, hf⟩ := bind_s hf
  refine g_callV (As := [.int o20, .int p1]) (rest := []) C k_X3_letterHolds (fun l => c_X3_letterHolds (E := E) (g := g) (r := r) (b := b) (R := R) hg hq23 l) mt_382 [0] rfl (by decide) ⟨_, _, _, _, List.mem_flatten.mpr ⟨_, List.mem_of_getElem? (i := 0) rfl, hg _ (List.mem_of_getElem? (l := ru E r b R) (i := 0) rfl)⟩, rfl⟩ rfl (Nat.le_of_ble_eq_true rfl) ⟨Nat.le_of_ble_eq_true rfl, Nat.le_of_ble_eq_true rfl, Nat.le_of_ble_eq_true rfl, Nat.le_of_ble_eq_true rfl⟩ dX3_partHolds_123 ?_
  rintro _ _ ⟨rfl, rfl⟩
  show G E X 7 [g] 0 0 [(6, .int o8), (5, .int o5), (0, .ref r), (1, .int p0), (2, .int p1), (3, .long p2)] [.int o22] 126
  obtain ⟨z24, hf⟩ := zb_s hf
  obtain rfl := Option.some.inj hf
  exact g_zret C K z24 dX3_partHolds_126 (Nat.le_of_ble_eq_true rfl) (Nat.le_of_ble_eq_true rfl) ⟨rfl, rfl⟩
def b_X3_holding_45 (N : Nat) (R : Ru) (p0 : Int32) (s : Int64) : Option (Int64) := some s
def b_X3_holding_39 (N : Nat) (R : Ru) (p0 : Int32) (K5 : (Int64 × Int32) → Option (Int64)) (s : Int64 × Int32) : Option (Int64) := K5 (s.1, (s.2 + (1 : Int32)))
def b_X3_holding_5 (N : Nat) (R : Ru) (p0 : Int32) (K5 : (Int64 × Int32) → Option (Int64)) (s : Int64 × Int32) : Option (Int64) := (if R.2.2.2.2.1 ≤ s.2 then b_X3_holding_45 N R p0 s.1 else (if (60 : Int32) ≤ s.2 then b_X3_holding_45 N R p0 s.1 else ((f_X3_partHolds R s.2 p0 s.1).bind fun o3 => (if o3 = 0 then b_X3_holding_39 N R p0 K5 (s.1, s.2) else b_X3_holding_39 N R p0 K5 ((s.1 ||| ((1 : Int64) <<< (Int32.toInt64 s.2 &&& 63))), s.2)))))
def f_X3_holding (N : Nat) (R : Ru) (p0 : Int32) : Option (Int64) := lp (b_X3_holding_5 N R p0) N ((0 : Int64), (0 : Int32))
abbrev rm_X3_holding : Room := { frames := 2, cells := 0, slots := 0, locals := 50 }
set_option maxRecDepth 100000 in
theorem k_X3_holding : CF yX3_holding cX3_holding 5 (some .long) 1 := ⟨mt_372, mp_10, mt_8, mt_373, ⟨rfl, by decide +kernel, by decide +kernel, by decide +kernel⟩⟩
set_option maxHeartbeats 4000000 in
set_option maxRecDepth 100000 in
theorem c_X3_holding {E : Ev} {g : va_W} {r : Nat} {b : Nat → Nat} {R : Ru} (hg : ∀ c ∈ ru E r b R, c ∈ g) {p0 : Int32} {N : Nat} {o : Int64} (hf : f_X3_holding N R p0 = some o) : ∀ l, MG l yX3_holding cX3_holding 5 (some .long) rm_X3_holding E [.ref r, .int p0] [g] (fun v Y => v = some (.long o) ∧ Y = [g]) := by
  refine MG.mk (own := RX3) (lv0 := [(0, .ref r), (1, .int p0)]) (by decide) rfl (Nat.le_of_ble_eq_true rfl) rfl (fun X C K I => ?_)
  have h45 : ∀ s : Int64, b_X3_holding_45 N R p0 s = some o → G E X 5 [g] 0 0 [(2, .long s)] [] 45 := by
    intro s hf
    unfold b_X3_holding_45 at hf
    refine g_lload_n C dX3_holding_45 rfl 0 rfl ?_
    obtain rfl := Option.some.inj hf
    exact g_lret C K dX3_holding_46 (Nat.le_of_ble_eq_true rfl) (Nat.le_of_ble_eq_true rfl) ⟨rfl, rfl⟩
  have h39 : ∀ (K5 : (Int64 × Int32) → Option (Int64)), (∀ s : Int64 × Int32, K5 s = some o → G E X 5 [g] 0 0 [(0, .ref r), (1, .int p0), (2, .long s.1), (4, .int s.2)] [] 5) → ∀ s : Int64 × Int32, b_X3_holding_39 N R p0 K5 s = some o → G E X 5 [g] 0 0 [(0, .ref r), (1, .int p0), (2, .long s.1), (4, .int s.2)] [] 39 := by
    intro K5 hK5 s hf
    unfold b_X3_holding_39 at hf
    refine g_iinc (v := (s.2 + (1 : Int32))) (lv2 := [(4, .int (s.2 + (1 : Int32))), (0, .ref r), (1, .int p0), (2, .long s.1)]) C dX3_holding_39 3 rfl (ii (by decide)) (by decide) rfl ?_
    refine g_goto (tgt := 5) C dX3_holding_42 (by decide) ?_
    refine g_sub (lv2 := [(0, .ref r), (1, .int p0), (2, .long s.1), (4, .int (s.2 + (1 : Int32)))]) [1, 2, 3, 0] rfl ?_
    exact hK5 (s.1, (s.2 + (1 : Int32))) hf
  have h5 : ∀ (n : Nat) (s : Int64 × Int32), lp (b_X3_holding_5 N R p0) n s = some o → G E X 5 [g] 0 0 [(0, .ref r), (1, .int p0), (2, .long s.1), (4, .int s.2)] [] 5 := by
    refine lp_ind ?_
    intro K5 hK5 s hf
    unfold b_X3_holding_5 at hf
    refine g_iload C dX3_holding_5 3 rfl ?_
    refine g_aload_n C dX3_holding_7 rfl 0 rfl ?_
    refine g_get (Cl := RX3) (T := TX3) (N := 6) C mi_X3 0 rfl (hg _ (List.mem_of_getElem? (l := ru E r b R) (i := 0) rfl)) rfl 4 (by decide) mt_129 rfl rfl dX3_holding_8 ?_
    refine g_icmp_ge (tgt := 45) C dX3_holding_11 (by decide) (fun c1 => ?_) (fun c1 => ?_)
    · have hf := (f_if hf).1 c1
      refine g_sub (lv2 := [(2, .long s.1)]) [2] rfl ?_
      exact h45 s.1 hf
    · have hf := (f_if hf).2 c1
      refine g_iload C dX3_holding_14 3 rfl ?_
      refine g_bipush (v := (60 : Int32)) C dX3_holding_16 (by decide) ?_
      refine g_icmp_ge (tgt := 45) C dX3_holding_18 (by decide) (fun c2 => ?_) (fun c2 => ?_)
      · have hf := (f_if hf).1 c2
        refine g_sub (lv2 := [(2, .long s.1)]) [2] rfl ?_
        exact h45 s.1 hf
      · have hf := (f_if hf).2 c2
        refine g_aload_n C dX3_holding_21 rfl 0 rfl ?_
        refine g_iload C dX3_holding_22 3 rfl ?_
        refine g_iload_n C dX3_holding_24 rfl 1 rfl ?_
        refine g_lload_n C dX3_holding_25 rfl 2 rfl ?_
        obtain ⟨o3, hq4, hf⟩ := bind_s hf
        refine g_callV (As := [.int s.2, .int p0, .long s.1]) (rest := []) C k_X3_partHolds (fun l => c_X3_partHolds (E := E) (g := g) (r := r) (b := b) (R := R) hg hq4 l) mt_374 [0] rfl (by decide) ⟨_, _, _, _, List.mem_flatten.mpr ⟨_, List.mem_of_getElem? (i := 0) rfl, hg _ (List.mem_of_getElem? (l := ru E r b R) (i := 0) rfl)⟩, rfl⟩ rfl (Nat.le_of_ble_eq_true rfl) ⟨Nat.le_of_ble_eq_true rfl, Nat.le_of_ble_eq_true rfl, Nat.le_of_ble_eq_true rfl, Nat.le_of_ble_eq_true rfl⟩ dX3_holding_26 ?_
        rintro _ _ ⟨rfl, rfl⟩
        show G E X 5 [g] 0 0 [(0, .ref r), (1, .int p0), (2, .long s.1), (4, .int s.2)] [.int o3] 29
        refine g_if_eq (tgt := 39) C dX3_holding_29 (by decide) (fun c5 => ?_) (fun c5 => ?_)
        · have hf := (f_if hf).1 c5
          exact h39 K5 hK5 (s.1, s.2) hf
        · have hf := (f_if hf).2 c5
          refine g_lload_n C dX3_holding_32 rfl 2 rfl ?_
          refine g_lconst (v := (1 : Int64)) C dX3_holding_33 (by decide) ?_
          refine g_iload C dX3_holding_34 3 rfl ?_
          refine g_lshl C dX3_holding_36 ?_
          refine g_lor C dX3_holding_37 ?_
          refine g_lstore_n (lv2 := [(2, .long (s.1 ||| ((1 : Int64) <<< (Int32.toInt64 s.2 &&& 63)))), (0, .ref r), (1, .int p0), (4, .int s.2)]) C dX3_holding_38 rfl (by decide) rfl ?_
          refine g_sub (lv2 := [(0, .ref r), (1, .int p0), (2, .long (s.1 ||| ((1 : Int64) <<< (Int32.toInt64 s.2 &&& 63)))), (4, .int s.2)]) [1, 2, 0, 3] rfl ?_
          exact h39 K5 hK5 ((s.1 ||| ((1 : Int64) <<< (Int32.toInt64 s.2 &&& 63))), s.2) hf
  unfold f_X3_holding at hf
  refine g_lconst (v := (0 : Int64)) C dX3_holding_0 (by decide) ?_
  refine g_lstore_n (lv2 := [(2, .long (0 : Int64)), (0, .ref r), (1, .int p0)]) C dX3_holding_1 rfl (by decide) rfl ?_
  refine g_iconst (v := (0 : Int32)) C dX3_holding_2 (by decide) ?_
  refine g_istore (lv2 := [(4, .int (0 : Int32)), (2, .long (0 : Int64)), (0, .ref r), (1, .int p0)]) C dX3_holding_3 (by decide) rfl ?_
  refine g_sub (lv2 := [(0, .ref r), (1, .int p0), (2, .long (0 : Int64)), (4, .int (0 : Int32))]) [2, 3, 1, 0] rfl ?_
  exact h5 N ((0 : Int64), (0 : Int32)) hf
def f_X3_holds (N : Nat) (R : Ru) (p0 : Int32) : Option (Int32) := ((f_X3_holding N R p0).bind fun o1 => ((f_X3_isIn R o1 (R.2.2.2.2.1 - (1 : Int32))).bind fun o3 => (zb o3 (some o3))))
abbrev rm_X3_holds : Room := { frames := 3, cells := 0, slots := 0, locals := 74 }
set_option maxRecDepth 100000 in
theorem k_X3_holds : CF yX3_holds cX3_holds 2 (some .boolean) 1 := ⟨mt_367, mt_368, mt_8, mt_369, ⟨rfl, by decide +kernel, by decide +kernel, by decide +kernel⟩⟩
set_option maxHeartbeats 4000000 in
set_option maxRecDepth 100000 in
theorem c_X3_holds {E : Ev} {g : va_W} {r : Nat} {b : Nat → Nat} {R : Ru} (hg : ∀ c ∈ ru E r b R, c ∈ g) {p0 : Int32} {N : Nat} {o : Int32} (hf : f_X3_holds N R p0 = some o) : ∀ l, MG l yX3_holds cX3_holds 2 (some .boolean) rm_X3_holds E [.ref r, .int p0] [g] (fun v Y => v = some (.int o) ∧ Y = [g]) := by
  refine MG.mk (own := RX3) (lv0 := [(0, .ref r), (1, .int p0)]) (by decide) rfl (Nat.le_of_ble_eq_true rfl) rfl (fun X C K I => ?_)
  unfold f_X3_holds at hf
  refine g_aload_n C dX3_holds_0 rfl 0 rfl ?_
  refine g_aload_n C dX3_holds_1 rfl 0 rfl ?_
  refine g_iload_n C dX3_holds_2 rfl 1 rfl ?_
  obtain ⟨o1, hq2, hf⟩ := bind_s hf
  refine g_callV (As := [.int p0]) (rest := [.ref r]) C k_X3_holding (fun l => c_X3_holding (E := E) (g := g) (r := r) (b := b) (R := R) hg hq2 l) mt_370 [0] rfl (by decide) ⟨_, _, _, _, List.mem_flatten.mpr ⟨_, List.mem_of_getElem? (i := 0) rfl, hg _ (List.mem_of_getElem? (l := ru E r b R) (i := 0) rfl)⟩, rfl⟩ rfl (Nat.le_of_ble_eq_true rfl) ⟨Nat.le_of_ble_eq_true rfl, Nat.le_of_ble_eq_true rfl, Nat.le_of_ble_eq_true rfl, Nat.le_of_ble_eq_true rfl⟩ dX3_holds_3 ?_
  rintro _ _ ⟨rfl, rfl⟩
  show G E X 2 [g] 0 0 [(0, .ref r), (1, .int p0)] [.long o1, .ref r] 6
  refine g_aload_n C dX3_holds_6 rfl 0 rfl ?_
  refine g_get (Cl := RX3) (T := TX3) (N := 6) C mi_X3 0 rfl (hg _ (List.mem_of_getElem? (l := ru E r b R) (i := 0) rfl)) rfl 4 (by decide) mt_129 rfl rfl dX3_holds_7 ?_
  refine g_iconst (v := (1 : Int32)) C dX3_holds_10 (by decide) ?_
  refine g_isub C dX3_holds_11 ?_
  obtain ⟨o3, hq4, hf⟩ := bind_s hf
  refine g_callV (As := [.long o1, .int (R.2.2.2.2.1 - (1 : Int32))]) (rest := []) C k_X3_isIn (fun l => c_X3_isIn (E := E) (g := g) (r := r) (b := b) (R := R) hg hq4 l) mt_378 [0] rfl (by decide) ⟨_, _, _, _, List.mem_flatten.mpr ⟨_, List.mem_of_getElem? (i := 0) rfl, hg _ (List.mem_of_getElem? (l := ru E r b R) (i := 0) rfl)⟩, rfl⟩ rfl (Nat.le_of_ble_eq_true rfl) ⟨Nat.le_of_ble_eq_true rfl, Nat.le_of_ble_eq_true rfl, Nat.le_of_ble_eq_true rfl, Nat.le_of_ble_eq_true rfl⟩ dX3_holds_12 ?_
  rintro _ _ ⟨rfl, rfl⟩
  show G E X 2 [g] 0 0 [(0, .ref r), (1, .int p0)] [.int o3] 15
  obtain ⟨z5, hf⟩ := zb_s hf
  obtain rfl := Option.some.inj hf
  exact g_zret C K z5 dX3_holds_15 (Nat.le_of_ble_eq_true rfl) (Nat.le_of_ble_eq_true rfl) ⟨rfl, rfl⟩
def b_X3_depthOf_28 (R : Ru) (p0 : Int32) (s : Int32) : Option (Int32) := some s
def b_X3_depthOf_27 (R : Ru) (p0 : Int32) (s : Unit) : Option (Int32) := b_X3_depthOf_28 R p0 (0 : Int32)
def f_X3_depthOf (R : Ru) (p0 : Int32) : Option (Int32) := (if p0 < 0 then b_X3_depthOf_27 R p0 () else (if R.2.2.2.2.1 ≤ p0 then b_X3_depthOf_27 R p0 () else (if (60 : Int32) ≤ p0 then b_X3_depthOf_27 R p0 () else (ix p0 60 (b_X3_depthOf_28 R p0 (R.2.2.2.1 (Int32.toNatClampNeg p0)))))))
abbrev rm_X3_depthOf : Room := { frames := 0, cells := 0, slots := 0, locals := 0 }
set_option maxRecDepth 100000 in
theorem k_X3_depthOf : CF yX3_depthOf cX3_depthOf 2 (some .int) 1 := ⟨mt_178, mp_6, mt_8, mt_179, ⟨rfl, by decide +kernel, by decide +kernel, by decide +kernel⟩⟩
set_option maxHeartbeats 4000000 in
set_option maxRecDepth 100000 in
theorem c_X3_depthOf {E : Ev} {g : va_W} {r : Nat} {b : Nat → Nat} {R : Ru} (hg : ∀ c ∈ ru E r b R, c ∈ g) {p0 : Int32} {o : Int32} (hf : f_X3_depthOf R p0 = some o) : ∀ l, MG l yX3_depthOf cX3_depthOf 2 (some .int) rm_X3_depthOf E [.ref r, .int p0] [g] (fun v Y => v = some (.int o) ∧ Y = [g]) := by
  refine MG.mk (own := RX3) (lv0 := [(0, .ref r), (1, .int p0)]) (by decide) rfl (Nat.le_of_ble_eq_true rfl) rfl (fun X C K I => ?_)
  have h28 : ∀ s : Int32, b_X3_depthOf_28 R p0 s = some o → G E X 2 [g] 0 0 [] [.int s] 28 := by
    intro s hf
    unfold b_X3_depthOf_28 at hf
    obtain rfl := Option.some.inj hf
    exact g_iret C K dX3_depthOf_28 (Nat.le_of_ble_eq_true rfl) (Nat.le_of_ble_eq_true rfl) ⟨rfl, rfl⟩
  have h27 : ∀ s : Unit, b_X3_depthOf_27 R p0 s = some o → G E X 2 [g] 0 0 [] [] 27 := by
    intro s hf
    unfold b_X3_depthOf_27 at hf
    refine g_iconst (v := (0 : Int32)) C dX3_depthOf_27 (by decide) ?_
    exact h28 (0 : Int32) hf
  unfold f_X3_depthOf at hf
  refine g_iload_n C dX3_depthOf_0 rfl 1 rfl ?_
  refine g_if_lt (tgt := 27) C dX3_depthOf_1 (by decide) (fun c1 => ?_) (fun c1 => ?_)
  · have hf := (f_if hf).1 c1
    refine g_sub (lv2 := []) [] rfl ?_
    exact h27 () hf
  · have hf := (f_if hf).2 c1
    refine g_iload_n C dX3_depthOf_4 rfl 1 rfl ?_
    refine g_aload_n C dX3_depthOf_5 rfl 0 rfl ?_
    refine g_get (Cl := RX3) (T := TX3) (N := 6) C mi_X3 0 rfl (hg _ (List.mem_of_getElem? (l := ru E r b R) (i := 0) rfl)) rfl 4 (by decide) mt_129 rfl rfl dX3_depthOf_6 ?_
    refine g_icmp_ge (tgt := 27) C dX3_depthOf_9 (by decide) (fun c2 => ?_) (fun c2 => ?_)
    · have hf := (f_if hf).1 c2
      refine g_sub (lv2 := []) [] rfl ?_
      exact h27 () hf
    · have hf := (f_if hf).2 c2
      refine g_iload_n C dX3_depthOf_12 rfl 1 rfl ?_
      refine g_bipush (v := (60 : Int32)) C dX3_depthOf_13 (by decide) ?_
      refine g_icmp_ge (tgt := 27) C dX3_depthOf_15 (by decide) (fun c3 => ?_) (fun c3 => ?_)
      · have hf := (f_if hf).1 c3
        refine g_sub (lv2 := []) [] rfl ?_
        exact h27 () hf
      · have hf := (f_if hf).2 c3
        refine g_aload_n C dX3_depthOf_18 rfl 0 rfl ?_
        refine g_get (Cl := RX3) (T := TX3) (N := 6) C mi_X3 0 rfl (hg _ (List.mem_of_getElem? (l := ru E r b R) (i := 0) rfl)) rfl 3 (by decide) mt_128 rfl rfl dX3_depthOf_19 ?_
        refine g_iload_n C dX3_depthOf_22 rfl 1 rfl ?_
        obtain ⟨i4, hf⟩ := ix_s hf
        refine g_iald C 0 rfl (hg _ (List.mem_of_getElem? (l := ru E r b R) (i := 4) rfl)) i4 dX3_depthOf_23 ?_
        refine g_goto (tgt := 28) C dX3_depthOf_24 (by decide) ?_
        refine g_sub (lv2 := []) [] rfl ?_
        exact h28 (R.2.2.2.1 (Int32.toNatClampNeg p0)) hf
def f_X3_depth (R : Ru) : Option (Int32) := ((f_X3_depthOf R (R.2.2.2.2.1 - (1 : Int32))).bind fun o1 => some o1)
abbrev rm_X3_depth : Room := { frames := 1, cells := 0, slots := 0, locals := 21 }
set_option maxRecDepth 100000 in
theorem k_X3_depth : CF yX3_depth cX3_depth 1 (some .int) 0 := ⟨mt_442, mt_443, mt_8, mt_444, ⟨rfl, by decide +kernel, by decide +kernel, by decide +kernel⟩⟩
set_option maxHeartbeats 4000000 in
set_option maxRecDepth 100000 in
theorem c_X3_depth {E : Ev} {g : va_W} {r : Nat} {b : Nat → Nat} {R : Ru} (hg : ∀ c ∈ ru E r b R, c ∈ g) {o : Int32} (hf : f_X3_depth R = some o) : ∀ l, MG l yX3_depth cX3_depth 1 (some .int) rm_X3_depth E [.ref r] [g] (fun v Y => v = some (.int o) ∧ Y = [g]) := by
  refine MG.mk (own := RX3) (lv0 := [(0, .ref r)]) (by decide) rfl (Nat.le_of_ble_eq_true rfl) rfl (fun X C K I => ?_)
  unfold f_X3_depth at hf
  refine g_aload_n C dX3_depth_0 rfl 0 rfl ?_
  refine g_aload_n C dX3_depth_1 rfl 0 rfl ?_
  refine g_get (Cl := RX3) (T := TX3) (N := 6) C mi_X3 0 rfl (hg _ (List.mem_of_getElem? (l := ru E r b R) (i := 0) rfl)) rfl 4 (by decide) mt_129 rfl rfl dX3_depth_2 ?_
  refine g_iconst (v := (1 : Int32)) C dX3_depth_5 (by decide) ?_
  refine g_isub C dX3_depth_6 ?_
  obtain ⟨o1, hq2, hf⟩ := bind_s hf
  refine g_callV (As := [.int (R.2.2.2.2.1 - (1 : Int32))]) (rest := []) C k_X3_depthOf (fun l => c_X3_depthOf (E := E) (g := g) (r := r) (b := b) (R := R) hg hq2 l) mt_176 [0] rfl (by decide) ⟨_, _, _, _, List.mem_flatten.mpr ⟨_, List.mem_of_getElem? (i := 0) rfl, hg _ (List.mem_of_getElem? (l := ru E r b R) (i := 0) rfl)⟩, rfl⟩ rfl (Nat.le_of_ble_eq_true rfl) ⟨Nat.le_of_ble_eq_true rfl, Nat.le_of_ble_eq_true rfl, Nat.le_of_ble_eq_true rfl, Nat.le_of_ble_eq_true rfl⟩ dX3_depth_7 ?_
  rintro _ _ ⟨rfl, rfl⟩
  show G E X 1 [g] 0 0 [(0, .ref r)] [.int o1] 10
  obtain rfl := Option.some.inj hf
  exact g_iret C K dX3_depth_10 (Nat.le_of_ble_eq_true rfl) (Nat.le_of_ble_eq_true rfl) ⟨rfl, rfl⟩
def b_X3_lookedAtFrom_110 (R : Ru) (p0 : Int32) (p1 : Int64) (s : Int64) : Option (Int64) := some s
def b_X3_lookedAtFrom_94 (R : Ru) (p0 : Int32) (p1 : Int64) (s : Int64) : Option (Int64) := some s
def b_X3_lookedAtFrom_34 (R : Ru) (p0 : Int32) (p1 : Int64) (s : Int64 × Int64 × Int32) : Option (Int64) := (ix p0 60 (if (R.1 (Int32.toNatClampNeg p0)) = (33 : Int32) then some s.1 else (if (R.1 (Int32.toNatClampNeg p0)) = (38 : Int32) then (if s.2.2 = 0 then b_X3_lookedAtFrom_94 R p0 p1 s.1 else b_X3_lookedAtFrom_94 R p0 p1 (s.1 ||| s.2.1)) else (if (R.1 (Int32.toNatClampNeg p0)) = (124 : Int32) then (if s.2.2 = 0 then b_X3_lookedAtFrom_110 R p0 p1 (s.1 ||| s.2.1) else b_X3_lookedAtFrom_110 R p0 p1 s.1) else some (0 : Int64)))))
def f_X3_lookedAtFrom (R : Ru) (p0 : Int32) (p1 : Int64) : Option (Int64) := (ix p0 60 (ix p0 60 (if (lg_cmp (p1 &&& ((1 : Int64) <<< (Int32.toInt64 (R.2.1 (Int32.toNatClampNeg p0)) &&& 63))) (0 : Int64)) = 0 then b_X3_lookedAtFrom_34 R p0 p1 (((1 : Int64) <<< (Int32.toInt64 (R.2.1 (Int32.toNatClampNeg p0)) &&& 63)), ((1 : Int64) <<< (Int32.toInt64 (R.2.2.1 (Int32.toNatClampNeg p0)) &&& 63)), (0 : Int32)) else b_X3_lookedAtFrom_34 R p0 p1 (((1 : Int64) <<< (Int32.toInt64 (R.2.1 (Int32.toNatClampNeg p0)) &&& 63)), ((1 : Int64) <<< (Int32.toInt64 (R.2.2.1 (Int32.toNatClampNeg p0)) &&& 63)), (1 : Int32)))))
abbrev rm_X3_lookedAtFrom : Room := { frames := 0, cells := 0, slots := 0, locals := 0 }
set_option maxRecDepth 100000 in
theorem k_X3_lookedAtFrom : CF yX3_lookedAtFrom cX3_lookedAtFrom 9 (some .long) 2 := ⟨mt_452, mp_19, mt_8, mt_453, ⟨rfl, by decide +kernel, by decide +kernel, by decide +kernel⟩⟩
set_option maxHeartbeats 4000000 in
set_option maxRecDepth 100000 in
theorem c_X3_lookedAtFrom {E : Ev} {g : va_W} {r : Nat} {b : Nat → Nat} {R : Ru} (hg : ∀ c ∈ ru E r b R, c ∈ g) {p0 : Int32} {p1 : Int64} {o : Int64} (hf : f_X3_lookedAtFrom R p0 p1 = some o) : ∀ l, MG l yX3_lookedAtFrom cX3_lookedAtFrom 9 (some .long) rm_X3_lookedAtFrom E [.ref r, .int p0, .long p1] [g] (fun v Y => v = some (.long o) ∧ Y = [g]) := by
  refine MG.mk (own := RX3) (lv0 := [(0, .ref r), (1, .int p0), (2, .long p1)]) (by decide) rfl (Nat.le_of_ble_eq_true rfl) rfl (fun X C K I => ?_)
  have h110 : ∀ s : Int64, b_X3_lookedAtFrom_110 R p0 p1 s = some o → G E X 9 [g] 0 0 [] [.long s] 110 := by
    intro s hf
    unfold b_X3_lookedAtFrom_110 at hf
    obtain rfl := Option.some.inj hf
    exact g_lret C K dX3_lookedAtFrom_110 (Nat.le_of_ble_eq_true rfl) (Nat.le_of_ble_eq_true rfl) ⟨rfl, rfl⟩
  have h94 : ∀ s : Int64, b_X3_lookedAtFrom_94 R p0 p1 s = some o → G E X 9 [g] 0 0 [] [.long s] 94 := by
    intro s hf
    unfold b_X3_lookedAtFrom_94 at hf
    obtain rfl := Option.some.inj hf
    exact g_lret C K dX3_lookedAtFrom_94 (Nat.le_of_ble_eq_true rfl) (Nat.le_of_ble_eq_true rfl) ⟨rfl, rfl⟩
  have h34 : ∀ s : Int64 × Int64 × Int32, b_X3_lookedAtFrom_34 R p0 p1 s = some o → G E X 9 [g] 0 0 [(0, .ref r), (1, .int p0), (4, .long s.1), (6, .long s.2.1)] [.int s.2.2] 34 := by
    intro s hf
    unfold b_X3_lookedAtFrom_34 at hf
    refine g_istore (lv2 := [(8, .int s.2.2), (0, .ref r), (1, .int p0), (4, .long s.1), (6, .long s.2.1)]) C dX3_lookedAtFrom_34 (by decide) rfl ?_
    refine g_aload_n C dX3_lookedAtFrom_36 rfl 1 rfl ?_
    refine g_get (Cl := RX3) (T := TX3) (N := 6) C mi_X3 0 rfl (hg _ (List.mem_of_getElem? (l := ru E r b R) (i := 0) rfl)) rfl 0 (by decide) mt_125 rfl rfl dX3_lookedAtFrom_37 ?_
    refine g_iload_n C dX3_lookedAtFrom_40 rfl 2 rfl ?_
    obtain ⟨i1, hf⟩ := ix_s hf
    refine g_cald C 0 rfl (hg _ (List.mem_of_getElem? (l := ru E r b R) (i := 1) rfl)) i1 dX3_lookedAtFrom_41 ?_
    by_cases c2 : (R.1 (Int32.toNatClampNeg p0)) = (33 : Int32)
    · have hf := (f_if hf).1 c2
      refine g_lookup (tgt := 76) C dX3_lookedAtFrom_42 (by decide) (by rw [c2] <;> rfl) (by decide) ?_
      refine g_lload C dX3_lookedAtFrom_76 3 rfl ?_
      obtain rfl := Option.some.inj hf
      exact g_lret C K dX3_lookedAtFrom_78 (Nat.le_of_ble_eq_true rfl) (Nat.le_of_ble_eq_true rfl) ⟨rfl, rfl⟩
    have hf := (f_if hf).2 c2
    by_cases c3 : (R.1 (Int32.toNatClampNeg p0)) = (38 : Int32)
    · have hf := (f_if hf).1 c3
      refine g_lookup (tgt := 79) C dX3_lookedAtFrom_42 (by decide) (by rw [c3] <;> rfl) (by decide) ?_
      refine g_iload C dX3_lookedAtFrom_79 0 rfl ?_
      refine g_if_eq (tgt := 92) C dX3_lookedAtFrom_81 (by decide) (fun c4 => ?_) (fun c4 => ?_)
      · have hf := (f_if hf).1 c4
        refine g_lload C dX3_lookedAtFrom_92 3 rfl ?_
        refine g_sub (lv2 := []) [] rfl ?_
        exact h94 s.1 hf
      · have hf := (f_if hf).2 c4
        refine g_lload C dX3_lookedAtFrom_84 3 rfl ?_
        refine g_lload C dX3_lookedAtFrom_86 4 rfl ?_
        refine g_lor C dX3_lookedAtFrom_88 ?_
        refine g_goto (tgt := 94) C dX3_lookedAtFrom_89 (by decide) ?_
        refine g_sub (lv2 := []) [] rfl ?_
        exact h94 (s.1 ||| s.2.1) hf
    have hf := (f_if hf).2 c3
    by_cases c5 : (R.1 (Int32.toNatClampNeg p0)) = (124 : Int32)
    · have hf := (f_if hf).1 c5
      refine g_lookup (tgt := 95) C dX3_lookedAtFrom_42 (by decide) (by rw [c5] <;> rfl) (by decide) ?_
      refine g_iload C dX3_lookedAtFrom_95 0 rfl ?_
      refine g_if_eq (tgt := 105) C dX3_lookedAtFrom_97 (by decide) (fun c6 => ?_) (fun c6 => ?_)
      · have hf := (f_if hf).1 c6
        refine g_lload C dX3_lookedAtFrom_105 3 rfl ?_
        refine g_lload C dX3_lookedAtFrom_107 4 rfl ?_
        refine g_lor C dX3_lookedAtFrom_109 ?_
        refine g_sub (lv2 := []) [] rfl ?_
        exact h110 (s.1 ||| s.2.1) hf
      · have hf := (f_if hf).2 c6
        refine g_lload C dX3_lookedAtFrom_100 3 rfl ?_
        refine g_goto (tgt := 110) C dX3_lookedAtFrom_102 (by decide) ?_
        refine g_sub (lv2 := []) [] rfl ?_
        exact h110 s.1 hf
    have hf := (f_if hf).2 c5
    refine g_lookup (tgt := 111) (off := 69) C dX3_lookedAtFrom_42 (by decide) (by show Op.lookupswitch.offset [(33, 34), (38, 37), (124, 53)] _ _ = _; rw [lv_osw (a := 33) c2 rfl, lv_osw (a := 38) c3 rfl, lv_osw (a := 124) c5 rfl] <;> rfl) (by decide) ?_
    refine g_lconst (v := (0 : Int64)) C dX3_lookedAtFrom_111 (by decide) ?_
    obtain rfl := Option.some.inj hf
    exact g_lret C K dX3_lookedAtFrom_112 (Nat.le_of_ble_eq_true rfl) (Nat.le_of_ble_eq_true rfl) ⟨rfl, rfl⟩
  unfold f_X3_lookedAtFrom at hf
  refine g_lconst (v := (1 : Int64)) C dX3_lookedAtFrom_0 (by decide) ?_
  refine g_aload_n C dX3_lookedAtFrom_1 rfl 0 rfl ?_
  refine g_get (Cl := RX3) (T := TX3) (N := 6) C mi_X3 0 rfl (hg _ (List.mem_of_getElem? (l := ru E r b R) (i := 0) rfl)) rfl 1 (by decide) mt_126 rfl rfl dX3_lookedAtFrom_2 ?_
  refine g_iload_n C dX3_lookedAtFrom_5 rfl 1 rfl ?_
  obtain ⟨i7, hf⟩ := ix_s hf
  refine g_iald C 0 rfl (hg _ (List.mem_of_getElem? (l := ru E r b R) (i := 2) rfl)) i7 dX3_lookedAtFrom_6 ?_
  refine g_lshl C dX3_lookedAtFrom_7 ?_
  refine g_lstore (lv2 := [(4, .long ((1 : Int64) <<< (Int32.toInt64 (R.2.1 (Int32.toNatClampNeg p0)) &&& 63))), (0, .ref r), (1, .int p0), (2, .long p1)]) C dX3_lookedAtFrom_8 (by decide) rfl ?_
  refine g_lconst (v := (1 : Int64)) C dX3_lookedAtFrom_10 (by decide) ?_
  refine g_aload_n C dX3_lookedAtFrom_11 rfl 1 rfl ?_
  refine g_get (Cl := RX3) (T := TX3) (N := 6) C mi_X3 0 rfl (hg _ (List.mem_of_getElem? (l := ru E r b R) (i := 0) rfl)) rfl 2 (by decide) mt_127 rfl rfl dX3_lookedAtFrom_12 ?_
  refine g_iload_n C dX3_lookedAtFrom_15 rfl 2 rfl ?_
  obtain ⟨i8, hf⟩ := ix_s hf
  refine g_iald C 0 rfl (hg _ (List.mem_of_getElem? (l := ru E r b R) (i := 3) rfl)) i8 dX3_lookedAtFrom_16 ?_
  refine g_lshl C dX3_lookedAtFrom_17 ?_
  refine g_lstore (lv2 := [(6, .long ((1 : Int64) <<< (Int32.toInt64 (R.2.2.1 (Int32.toNatClampNeg p0)) &&& 63))), (4, .long ((1 : Int64) <<< (Int32.toInt64 (R.2.1 (Int32.toNatClampNeg p0)) &&& 63))), (0, .ref r), (1, .int p0), (2, .long p1)]) C dX3_lookedAtFrom_18 (by decide) rfl ?_
  refine g_lload_n C dX3_lookedAtFrom_20 rfl 4 rfl ?_
  refine g_lload C dX3_lookedAtFrom_21 1 rfl ?_
  refine g_land C dX3_lookedAtFrom_23 ?_
  refine g_lconst (v := (0 : Int64)) C dX3_lookedAtFrom_24 (by decide) ?_
  refine g_lcmp C dX3_lookedAtFrom_25 ?_
  refine g_if_eq (tgt := 33) C dX3_lookedAtFrom_26 (by decide) (fun c9 => ?_) (fun c9 => ?_)
  · have hf := (f_if hf).1 c9
    refine g_iconst (v := (0 : Int32)) C dX3_lookedAtFrom_33 (by decide) ?_
    refine g_sub (lv2 := [(0, .ref r), (1, .int p0), (4, .long ((1 : Int64) <<< (Int32.toInt64 (R.2.1 (Int32.toNatClampNeg p0)) &&& 63))), (6, .long ((1 : Int64) <<< (Int32.toInt64 (R.2.2.1 (Int32.toNatClampNeg p0)) &&& 63)))]) [2, 3, 1, 0] rfl ?_
    exact h34 (((1 : Int64) <<< (Int32.toInt64 (R.2.1 (Int32.toNatClampNeg p0)) &&& 63)), ((1 : Int64) <<< (Int32.toInt64 (R.2.2.1 (Int32.toNatClampNeg p0)) &&& 63)), (0 : Int32)) hf
  · have hf := (f_if hf).2 c9
    refine g_iconst (v := (1 : Int32)) C dX3_lookedAtFrom_29 (by decide) ?_
    refine g_goto (tgt := 34) C dX3_lookedAtFrom_30 (by decide) ?_
    refine g_sub (lv2 := [(0, .ref r), (1, .int p0), (4, .long ((1 : Int64) <<< (Int32.toInt64 (R.2.1 (Int32.toNatClampNeg p0)) &&& 63))), (6, .long ((1 : Int64) <<< (Int32.toInt64 (R.2.2.1 (Int32.toNatClampNeg p0)) &&& 63)))]) [2, 3, 1, 0] rfl ?_
    exact h34 (((1 : Int64) <<< (Int32.toInt64 (R.2.1 (Int32.toNatClampNeg p0)) &&& 63)), ((1 : Int64) <<< (Int32.toInt64 (R.2.2.1 (Int32.toNatClampNeg p0)) &&& 63)), (1 : Int32)) hf
