def b_L_type_24 (N : Nat) (Vp : Pd) (Vn : St) (Vh : Hb) (Vk0 : St) (Vk1 : St) (Vk2 : St) (Vk3 : St) (Vk4 : St) (Vk5 : St) (p1 : Int32) (s : Pd × Int32) : Option (Int32 × Pd) := (zb s.2 (some (s.2, s.1)))
def f_L_type (N : Nat) (Vp : Pd) (Vn : St) (Vh : Hb) (Vk0 : St) (Vk1 : St) (Vk2 : St) (Vk3 : St) (Vk4 : St) (Vk5 : St) (p1 : Int32) : Option (Int32 × Pd) := ((f_X5_count N Vp Vn Vh Vk0 Vk1 Vk2 Vk3 Vk4 Vk5 (18 : Int32)).bind fun o2 => ((f_X5_put N Vp (Int32.toInt64 p1)).bind fun o4 => (if o4.1 = (o2 + (1 : Int32)) then b_L_type_24 N Vp Vn Vh Vk0 Vk1 Vk2 Vk3 Vk4 Vk5 p1 (o4.2, (1 : Int32)) else b_L_type_24 N Vp Vn Vh Vk0 Vk1 Vk2 Vk3 Vk4 Vk5 p1 (o4.2, (0 : Int32)))))
abbrev rm_L_type : Room := { frames := 3, cells := 0, slots := 0, locals := 64 }
set_option maxRecDepth 100000 in
theorem k_L_type : CFs yL_type cL_type 3 (some .boolean) 2 := ⟨mt_537, mt_0, mt_538, ⟨by decide +kernel, by decide +kernel, by decide +kernel⟩⟩
set_option maxHeartbeats 4000000 in
set_option maxRecDepth 100000 in
theorem c_L_type {E : Ev} {ex1 : Nat} {ex3 : Nat} {ex5 : Nat} {ex6 : Nat} {ax : Nat → Nat} {ap : Nat → Nat} {Vp : Pd} {an : Nat → Nat} {Vn : St} {ah : Nat → Nat} {Vh : Hb} {ak0 : Nat → Nat} {Vk0 : St} {ak1 : Nat → Nat} {Vk1 : St} {ak2 : Nat → Nat} {Vk2 : St} {ak3 : Nat → Nat} {Vk3 : St} {ak4 : Nat → Nat} {Vk4 : St} {ak5 : Nat → Nat} {Vk5 : St} {p1 : Int32} {N : Nat} {o : Int32 × Pd} (hf : f_L_type N Vp Vn Vh Vk0 Vk1 Vk2 Vk3 Vk4 Vk5 p1 = some o) : ∀ l, MG l yL_type cL_type 3 (some .boolean) rm_L_type E [.ref (ax 0), .int p1] [xo E ax (ap 0) ex1 (an 0) ex3 (ah 0) ex5 ex6, pd E ap Vp, sc E an Vn, hb E ah (ak0 0) (ak1 0) (ak2 0) (ak3 0) (ak4 0) (ak5 0) Vh, sc E ak0 Vk0, sc E ak1 Vk1, sc E ak2 Vk2, sc E ak3 Vk3, sc E ak4 Vk4, sc E ak5 Vk5] (fun v Y => v = some (.int o.1) ∧ Y = [xo E ax (ap 0) ex1 (an 0) ex3 (ah 0) ex5 ex6, pd E ap o.2, sc E an Vn, hb E ah (ak0 0) (ak1 0) (ak2 0) (ak3 0) (ak4 0) (ak5 0) Vh, sc E ak0 Vk0, sc E ak1 Vk1, sc E ak2 Vk2, sc E ak3 Vk3, sc E ak4 Vk4, sc E ak5 Vk5]) := by
  refine MG.mk (own := RL) (lv0 := [(0, .ref (ax 0)), (1, .int p1)]) (by decide) rfl (Nat.le_of_ble_eq_true rfl) rfl (fun X C K I => ?_)
  have h24 : ∀ s : Pd × Int32, b_L_type_24 N Vp Vn Vh Vk0 Vk1 Vk2 Vk3 Vk4 Vk5 p1 s = some o → G E X 3 [xo E ax (ap 0) ex1 (an 0) ex3 (ah 0) ex5 ex6, pd E ap s.1, sc E an Vn, hb E ah (ak0 0) (ak1 0) (ak2 0) (ak3 0) (ak4 0) (ak5 0) Vh, sc E ak0 Vk0, sc E ak1 Vk1, sc E ak2 Vk2, sc E ak3 Vk3, sc E ak4 Vk4, sc E ak5 Vk5] 0 0 [] [.int s.2] 24 := by
    intro s hf
    unfold b_L_type_24 at hf
    obtain ⟨z1, hf⟩ := zb_s hf
    obtain rfl := Option.some.inj hf
    exact g_zret C K z1 dL_type_24 (Nat.le_of_ble_eq_true rfl) (Nat.le_of_ble_eq_true rfl) ⟨rfl, rfl⟩
  unfold f_L_type at hf
  refine g_aload_n C dL_type_0 rfl 0 rfl ?_
  refine g_bipush (v := (18 : Int32)) C dL_type_1 (by decide) ?_
  obtain ⟨o2, hq3, hf⟩ := bind_s hf
  refine g_callV (As := [.int (18 : Int32)]) (rest := []) C k_X5_count (fun l => c_X5_count (E := E) (ax := ax) (ex1 := ex1) (ex3 := ex3) (ex5 := ex5) (ex6 := ex6) (ap := ap) (Vp := Vp) (an := an) (Vn := Vn) (ah := ah) (Vh := Vh) (ak0 := ak0) (Vk0 := Vk0) (ak1 := ak1) (Vk1 := Vk1) (ak2 := ak2) (Vk2 := Vk2) (ak3 := ak3) (Vk3 := Vk3) (ak4 := ak4) (Vk4 := Vk4) (ak5 := ak5) (Vk5 := Vk5) hq3 l) mt_460 [0, 1, 2, 3, 4, 5, 6, 7, 8, 9] rfl (by decide) ⟨_, _, _, _, List.mem_flatten.mpr ⟨_, List.mem_of_getElem? (i := 0) rfl, List.mem_of_getElem? (i := 0) rfl⟩, rfl⟩ rfl (Nat.le_of_ble_eq_true rfl) ⟨Nat.le_of_ble_eq_true rfl, Nat.le_of_ble_eq_true rfl, Nat.le_of_ble_eq_true rfl, Nat.le_of_ble_eq_true rfl⟩ dL_type_3 ?_
  rintro _ _ ⟨rfl, rfl⟩
  show G E X 3 [xo E ax (ap 0) ex1 (an 0) ex3 (ah 0) ex5 ex6, pd E ap Vp, sc E an Vn, hb E ah (ak0 0) (ak1 0) (ak2 0) (ak3 0) (ak4 0) (ak5 0) Vh, sc E ak0 Vk0, sc E ak1 Vk1, sc E ak2 Vk2, sc E ak3 Vk3, sc E ak4 Vk4, sc E ak5 Vk5] 0 0 [(0, .ref (ax 0)), (1, .int p1)] [.int o2] 6
  refine g_istore_n (lv2 := [(2, .int o2), (0, .ref (ax 0)), (1, .int p1)]) C dL_type_6 rfl (by decide) rfl ?_
  refine g_aload_n C dL_type_7 rfl 1 rfl ?_
  refine g_iload_n C dL_type_8 rfl 2 rfl ?_
  refine g_i2l C dL_type_9 ?_
  obtain ⟨o4, hq5, hf⟩ := bind_s hf
  refine g_callV (As := [.long (Int32.toInt64 p1)]) (rest := []) C k_X5_put (fun l => c_X5_put (E := E) (ax := ax) (ex1 := ex1) (ex2 := (an 0)) (ex3 := ex3) (ex4 := (ah 0)) (ex5 := ex5) (ex6 := ex6) (ap := ap) (Vp := Vp) hq5 l) mt_539 [0, 1] rfl (by decide) ⟨_, _, _, _, List.mem_flatten.mpr ⟨_, List.mem_of_getElem? (i := 0) rfl, List.mem_of_getElem? (i := 0) rfl⟩, rfl⟩ rfl (Nat.le_of_ble_eq_true rfl) ⟨Nat.le_of_ble_eq_true rfl, Nat.le_of_ble_eq_true rfl, Nat.le_of_ble_eq_true rfl, Nat.le_of_ble_eq_true rfl⟩ dL_type_10 ?_
  rintro _ _ ⟨rfl, rfl⟩
  show G E X 3 [xo E ax (ap 0) ex1 (an 0) ex3 (ah 0) ex5 ex6, pd E ap o4.2, sc E an Vn, hb E ah (ak0 0) (ak1 0) (ak2 0) (ak3 0) (ak4 0) (ak5 0) Vh, sc E ak0 Vk0, sc E ak1 Vk1, sc E ak2 Vk2, sc E ak3 Vk3, sc E ak4 Vk4, sc E ak5 Vk5] 0 0 [(2, .int o2), (0, .ref (ax 0)), (1, .int p1)] [.int o4.1] 13
  refine g_iload_n C dL_type_13 rfl 0 rfl ?_
  refine g_iconst (v := (1 : Int32)) C dL_type_14 (by decide) ?_
  refine g_iadd C dL_type_15 ?_
  refine g_icmp_ne (tgt := 23) C dL_type_16 (by decide) (fun c6 => ?_) (fun c6 => ?_)
  · have hf := (f_if hf).2 c6
    refine g_iconst (v := (0 : Int32)) C dL_type_23 (by decide) ?_
    refine g_sub (lv2 := []) [] rfl ?_
    exact h24 (o4.2, (0 : Int32)) hf
  · have hf := (f_if hf).1 c6
    refine g_iconst (v := (1 : Int32)) C dL_type_19 (by decide) ?_
    refine g_goto (tgt := 24) C dL_type_20 (by decide) ?_
    refine g_sub (lv2 := []) [] rfl ?_
    exact h24 (o4.2, (1 : Int32)) hf
def b_L_write_177 (N : Nat) (Vp : Pd) (Vn : St) (Vh : Hb) (Vk0 : St) (Vk1 : St) (Vk2 : St) (Vk3 : St) (Vk4 : St) (Vk5 : St) (p1 : Int32) (K4 : (Pd × Int32 × Int32) → Option (Int32 × Pd)) (K38 : (Pd × Int32 × Int32 × Int32) → Option (Int32 × Pd)) (s : Pd × Int32 × Int32 × Int32) : Option (Int32 × Pd) := K38 (s.1, s.2.2.2, s.2.1, (s.2.2.1 + (1 : Int32)))
def b_L_write_176 (N : Nat) (Vp : Pd) (Vn : St) (Vh : Hb) (Vk0 : St) (Vk1 : St) (Vk2 : St) (Vk3 : St) (Vk4 : St) (Vk5 : St) (p1 : Int32) (K4 : (Pd × Int32 × Int32) → Option (Int32 × Pd)) (K38 : (Pd × Int32 × Int32 × Int32) → Option (Int32 × Pd)) (s : Pd × Int32 × Int32) : Option (Int32 × Pd) := b_L_write_177 N Vp Vn Vh Vk0 Vk1 Vk2 Vk3 Vk4 Vk5 p1 K4 K38 (s.1, s.2.1, s.2.2, (0 : Int32))
def b_L_write_172 (N : Nat) (Vp : Pd) (Vn : St) (Vh : Hb) (Vk0 : St) (Vk1 : St) (Vk2 : St) (Vk3 : St) (Vk4 : St) (Vk5 : St) (p1 : Int32) (K4 : (Pd × Int32 × Int32) → Option (Int32 × Pd)) (K38 : (Pd × Int32 × Int32 × Int32) → Option (Int32 × Pd)) (s : Pd × Int32 × Int32) : Option (Int32 × Pd) := b_L_write_177 N Vp Vn Vh Vk0 Vk1 Vk2 Vk3 Vk4 Vk5 p1 K4 K38 (s.1, s.2.1, s.2.2, (1 : Int32))
def b_L_write_126 (N : Nat) (Vp : Pd) (Vn : St) (Vh : Hb) (Vk0 : St) (Vk1 : St) (Vk2 : St) (Vk3 : St) (Vk4 : St) (Vk5 : St) (p1 : Int32) (K4 : (Pd × Int32 × Int32) → Option (Int32 × Pd)) (K38 : (Pd × Int32 × Int32 × Int32) → Option (Int32 × Pd)) (s : Pd × Int32 × Int32 × Int32 × Int32) : Option (Int32 × Pd) := (if s.2.2.2.2 = 0 then b_L_write_176 N Vp Vn Vh Vk0 Vk1 Vk2 Vk3 Vk4 Vk5 p1 K4 K38 (s.1, s.2.1, s.2.2.1) else ((f_L_isTwo s.2.2.2.1).bind fun o2 => (if o2 = 0 then b_L_write_172 N Vp Vn Vh Vk0 Vk1 Vk2 Vk3 Vk4 Vk5 p1 K4 K38 (s.1, s.2.1, s.2.2.1) else ((f_L_type N s.1 Vn Vh Vk0 Vk1 Vk2 Vk3 Vk4 Vk5 (124 : Int32)).bind fun o5 => (if o5.1 = 0 then b_L_write_176 N Vp Vn Vh Vk0 Vk1 Vk2 Vk3 Vk4 Vk5 p1 K4 K38 (o5.2, s.2.1, s.2.2.1) else ((f_L_letter (s.2.2.2.1 >>> ((7 : Int32) &&& 31))).bind fun o8 => ((f_L_type N o5.2 Vn Vh Vk0 Vk1 Vk2 Vk3 Vk4 Vk5 o8).bind fun o10 => (if o10.1 = 0 then b_L_write_176 N Vp Vn Vh Vk0 Vk1 Vk2 Vk3 Vk4 Vk5 p1 K4 K38 (o10.2, s.2.1, s.2.2.1) else ((f_L_type N o10.2 Vn Vh Vk0 Vk1 Vk2 Vk3 Vk4 Vk5 (41 : Int32)).bind fun o13 => (if o13.1 = 0 then b_L_write_176 N Vp Vn Vh Vk0 Vk1 Vk2 Vk3 Vk4 Vk5 p1 K4 K38 (o13.2, s.2.1, s.2.2.1) else b_L_write_172 N Vp Vn Vh Vk0 Vk1 Vk2 Vk3 Vk4 Vk5 p1 K4 K38 (o13.2, s.2.1, s.2.2.1)))))))))))
def b_L_write_125 (N : Nat) (Vp : Pd) (Vn : St) (Vh : Hb) (Vk0 : St) (Vk1 : St) (Vk2 : St) (Vk3 : St) (Vk4 : St) (Vk5 : St) (p1 : Int32) (K4 : (Pd × Int32 × Int32) → Option (Int32 × Pd)) (K38 : (Pd × Int32 × Int32 × Int32) → Option (Int32 × Pd)) (s : Pd × Int32 × Int32 × Int32) : Option (Int32 × Pd) := b_L_write_126 N Vp Vn Vh Vk0 Vk1 Vk2 Vk3 Vk4 Vk5 p1 K4 K38 (s.1, s.2.1, s.2.2.1, s.2.2.2, (0 : Int32))
def b_L_write_109 (N : Nat) (Vp : Pd) (Vn : St) (Vh : Hb) (Vk0 : St) (Vk1 : St) (Vk2 : St) (Vk3 : St) (Vk4 : St) (Vk5 : St) (p1 : Int32) (K4 : (Pd × Int32 × Int32) → Option (Int32 × Pd)) (K38 : (Pd × Int32 × Int32 × Int32) → Option (Int32 × Pd)) (s : Pd × Int32 × Int32 × Int32) : Option (Int32 × Pd) := ((f_L_letter s.2.2.2).bind fun o16 => ((f_L_type N s.1 Vn Vh Vk0 Vk1 Vk2 Vk3 Vk4 Vk5 o16).bind fun o18 => (if o18.1 = 0 then b_L_write_125 N Vp Vn Vh Vk0 Vk1 Vk2 Vk3 Vk4 Vk5 p1 K4 K38 (o18.2, s.2.1, s.2.2.1, s.2.2.2) else b_L_write_126 N Vp Vn Vh Vk0 Vk1 Vk2 Vk3 Vk4 Vk5 p1 K4 K38 (o18.2, s.2.1, s.2.2.1, s.2.2.2, (1 : Int32)))))
def b_L_write_92 (N : Nat) (Vp : Pd) (Vn : St) (Vh : Hb) (Vk0 : St) (Vk1 : St) (Vk2 : St) (Vk3 : St) (Vk4 : St) (Vk5 : St) (p1 : Int32) (K4 : (Pd × Int32 × Int32) → Option (Int32 × Pd)) (K38 : (Pd × Int32 × Int32 × Int32) → Option (Int32 × Pd)) (s : Pd × Int32 × Int32 × Int32) : Option (Int32 × Pd) := ((f_L_isTwo s.2.2.2).bind fun o21 => (if o21 = 0 then b_L_write_109 N Vp Vn Vh Vk0 Vk1 Vk2 Vk3 Vk4 Vk5 p1 K4 K38 (s.1, s.2.1, s.2.2.1, s.2.2.2) else ((f_L_type N s.1 Vn Vh Vk0 Vk1 Vk2 Vk3 Vk4 Vk5 (40 : Int32)).bind fun o24 => (if o24.1 = 0 then b_L_write_125 N Vp Vn Vh Vk0 Vk1 Vk2 Vk3 Vk4 Vk5 p1 K4 K38 (o24.2, s.2.1, s.2.2.1, s.2.2.2) else b_L_write_109 N Vp Vn Vh Vk0 Vk1 Vk2 Vk3 Vk4 Vk5 p1 K4 K38 (o24.2, s.2.1, s.2.2.1, s.2.2.2)))))
def b_L_write_75 (N : Nat) (Vp : Pd) (Vn : St) (Vh : Hb) (Vk0 : St) (Vk1 : St) (Vk2 : St) (Vk3 : St) (Vk4 : St) (Vk5 : St) (p1 : Int32) (K4 : (Pd × Int32 × Int32) → Option (Int32 × Pd)) (K38 : (Pd × Int32 × Int32 × Int32) → Option (Int32 × Pd)) (s : Pd × Int32 × Int32 × Int32) : Option (Int32 × Pd) := ((f_L_isNot s.2.2.2).bind fun o27 => (if o27 = 0 then b_L_write_92 N Vp Vn Vh Vk0 Vk1 Vk2 Vk3 Vk4 Vk5 p1 K4 K38 (s.1, s.2.1, s.2.2.1, s.2.2.2) else ((f_L_type N s.1 Vn Vh Vk0 Vk1 Vk2 Vk3 Vk4 Vk5 (33 : Int32)).bind fun o30 => (if o30.1 = 0 then b_L_write_125 N Vp Vn Vh Vk0 Vk1 Vk2 Vk3 Vk4 Vk5 p1 K4 K38 (o30.2, s.2.1, s.2.2.1, s.2.2.2) else b_L_write_92 N Vp Vn Vh Vk0 Vk1 Vk2 Vk3 Vk4 Vk5 p1 K4 K38 (o30.2, s.2.1, s.2.2.1, s.2.2.2)))))
def b_L_write_38 (N : Nat) (Vp : Pd) (Vn : St) (Vh : Hb) (Vk0 : St) (Vk1 : St) (Vk2 : St) (Vk3 : St) (Vk4 : St) (Vk5 : St) (p1 : Int32) (K4 : (Pd × Int32 × Int32) → Option (Int32 × Pd)) (K38 : (Pd × Int32 × Int32 × Int32) → Option (Int32 × Pd)) (s : Pd × Int32 × Int32 × Int32) : Option (Int32 × Pd) := ((f_L_partsOf p1 s.2.2.1).bind fun o33 => (if o33 ≤ s.2.2.2 then K4 (s.1, s.2.1, (s.2.2.1 + (1 : Int32))) else ((f_L_part p1 s.2.2.1 s.2.2.2).bind fun o36 => (if s.2.1 = 0 then b_L_write_125 N Vp Vn Vh Vk0 Vk1 Vk2 Vk3 Vk4 Vk5 p1 K4 K38 (s.1, s.2.2.1, s.2.2.2, o36) else (if s.2.2.2 = 0 then b_L_write_75 N Vp Vn Vh Vk0 Vk1 Vk2 Vk3 Vk4 Vk5 p1 K4 K38 (s.1, s.2.2.1, s.2.2.2, o36) else ((f_L_type N s.1 Vn Vh Vk0 Vk1 Vk2 Vk3 Vk4 Vk5 (38 : Int32)).bind fun o40 => (if o40.1 = 0 then b_L_write_125 N Vp Vn Vh Vk0 Vk1 Vk2 Vk3 Vk4 Vk5 p1 K4 K38 (o40.2, s.2.2.1, s.2.2.2, o36) else b_L_write_75 N Vp Vn Vh Vk0 Vk1 Vk2 Vk3 Vk4 Vk5 p1 K4 K38 (o40.2, s.2.2.1, s.2.2.2, o36))))))))
def b_L_write_34 (N : Nat) (Vp : Pd) (Vn : St) (Vh : Hb) (Vk0 : St) (Vk1 : St) (Vk2 : St) (Vk3 : St) (Vk4 : St) (Vk5 : St) (p1 : Int32) (K4 : (Pd × Int32 × Int32) → Option (Int32 × Pd)) (s : Pd × Int32 × Int32) : Option (Int32 × Pd) := lp (b_L_write_38 N Vp Vn Vh Vk0 Vk1 Vk2 Vk3 Vk4 Vk5 p1 K4) N (s.1, s.2.2, s.2.1, (0 : Int32))
def b_L_write_33 (N : Nat) (Vp : Pd) (Vn : St) (Vh : Hb) (Vk0 : St) (Vk1 : St) (Vk2 : St) (Vk3 : St) (Vk4 : St) (Vk5 : St) (p1 : Int32) (K4 : (Pd × Int32 × Int32) → Option (Int32 × Pd)) (s : Pd × Int32) : Option (Int32 × Pd) := b_L_write_34 N Vp Vn Vh Vk0 Vk1 Vk2 Vk3 Vk4 Vk5 p1 K4 (s.1, s.2, (0 : Int32))
def b_L_write_29 (N : Nat) (Vp : Pd) (Vn : St) (Vh : Hb) (Vk0 : St) (Vk1 : St) (Vk2 : St) (Vk3 : St) (Vk4 : St) (Vk5 : St) (p1 : Int32) (K4 : (Pd × Int32 × Int32) → Option (Int32 × Pd)) (s : Pd × Int32) : Option (Int32 × Pd) := b_L_write_34 N Vp Vn Vh Vk0 Vk1 Vk2 Vk3 Vk4 Vk5 p1 K4 (s.1, s.2, (1 : Int32))
def b_L_write_4 (N : Nat) (Vp : Pd) (Vn : St) (Vh : Hb) (Vk0 : St) (Vk1 : St) (Vk2 : St) (Vk3 : St) (Vk4 : St) (Vk5 : St) (p1 : Int32) (K4 : (Pd × Int32 × Int32) → Option (Int32 × Pd)) (s : Pd × Int32 × Int32) : Option (Int32 × Pd) := ((f_L_rows p1).bind fun o43 => (if o43 ≤ s.2.2 then (zb s.2.1 (some (s.2.1, s.1))) else (if s.2.1 = 0 then b_L_write_33 N Vp Vn Vh Vk0 Vk1 Vk2 Vk3 Vk4 Vk5 p1 K4 (s.1, s.2.2) else (if s.2.2 = 0 then b_L_write_29 N Vp Vn Vh Vk0 Vk1 Vk2 Vk3 Vk4 Vk5 p1 K4 (s.1, s.2.2) else ((f_L_type N s.1 Vn Vh Vk0 Vk1 Vk2 Vk3 Vk4 Vk5 (124 : Int32)).bind fun o49 => (if o49.1 = 0 then b_L_write_33 N Vp Vn Vh Vk0 Vk1 Vk2 Vk3 Vk4 Vk5 p1 K4 (o49.2, s.2.2) else b_L_write_29 N Vp Vn Vh Vk0 Vk1 Vk2 Vk3 Vk4 Vk5 p1 K4 (o49.2, s.2.2)))))))
def f_L_write (N : Nat) (Vp : Pd) (Vn : St) (Vh : Hb) (Vk0 : St) (Vk1 : St) (Vk2 : St) (Vk3 : St) (Vk4 : St) (Vk5 : St) (p1 : Int32) : Option (Int32 × Pd) := lp (b_L_write_4 N Vp Vn Vh Vk0 Vk1 Vk2 Vk3 Vk4 Vk5 p1) N (Vp, (1 : Int32), (0 : Int32))
abbrev rm_L_write : Room := { frames := 4, cells := 0, slots := 0, locals := 86 }
set_option maxRecDepth 100000 in
theorem k_L_write : CFs yL_write cL_write 6 (some .boolean) 2 := ⟨mt_531, mt_0, mt_532, ⟨by decide +kernel, by decide +kernel, by decide +kernel⟩⟩
set_option maxHeartbeats 4000000 in
set_option maxRecDepth 100000 in
theorem c_L_write {E : Ev} {ex1 : Nat} {ex3 : Nat} {ex5 : Nat} {ex6 : Nat} {ax : Nat → Nat} {ap : Nat → Nat} {Vp : Pd} {an : Nat → Nat} {Vn : St} {ah : Nat → Nat} {Vh : Hb} {ak0 : Nat → Nat} {Vk0 : St} {ak1 : Nat → Nat} {Vk1 : St} {ak2 : Nat → Nat} {Vk2 : St} {ak3 : Nat → Nat} {Vk3 : St} {ak4 : Nat → Nat} {Vk4 : St} {ak5 : Nat → Nat} {Vk5 : St} {p1 : Int32} {N : Nat} {o : Int32 × Pd} (hf : f_L_write N Vp Vn Vh Vk0 Vk1 Vk2 Vk3 Vk4 Vk5 p1 = some o) : ∀ l, MG l yL_write cL_write 6 (some .boolean) rm_L_write E [.ref (ax 0), .int p1] [xo E ax (ap 0) ex1 (an 0) ex3 (ah 0) ex5 ex6, pd E ap Vp, sc E an Vn, hb E ah (ak0 0) (ak1 0) (ak2 0) (ak3 0) (ak4 0) (ak5 0) Vh, sc E ak0 Vk0, sc E ak1 Vk1, sc E ak2 Vk2, sc E ak3 Vk3, sc E ak4 Vk4, sc E ak5 Vk5] (fun v Y => v = some (.int o.1) ∧ Y = [xo E ax (ap 0) ex1 (an 0) ex3 (ah 0) ex5 ex6, pd E ap o.2, sc E an Vn, hb E ah (ak0 0) (ak1 0) (ak2 0) (ak3 0) (ak4 0) (ak5 0) Vh, sc E ak0 Vk0, sc E ak1 Vk1, sc E ak2 Vk2, sc E ak3 Vk3, sc E ak4 Vk4, sc E ak5 Vk5]) := by
  refine MG.mk (own := RL) (lv0 := [(0, .ref (ax 0)), (1, .int p1)]) (by decide) rfl (Nat.le_of_ble_eq_true rfl) rfl (fun X C K I => ?_)
  have h177 : ∀ (K4 : (Pd × Int32 × Int32) → Option (Int32 × Pd)), (∀ s : Pd × Int32 × Int32, K4 s = some o → G E X 6 [xo E ax (ap 0) ex1 (an 0) ex3 (ah 0) ex5 ex6, pd E ap s.1, sc E an Vn, hb E ah (ak0 0) (ak1 0) (ak2 0) (ak3 0) (ak4 0) (ak5 0) Vh, sc E ak0 Vk0, sc E ak1 Vk1, sc E ak2 Vk2, sc E ak3 Vk3, sc E ak4 Vk4, sc E ak5 Vk5] 0 0 [(0, .ref (ax 0)), (1, .int p1), (2, .int s.2.1), (3, .int s.2.2)] [] 4) → ∀ (K38 : (Pd × Int32 × Int32 × Int32) → Option (Int32 × Pd)), (∀ s : Pd × Int32 × Int32 × Int32, K38 s = some o → G E X 6 [xo E ax (ap 0) ex1 (an 0) ex3 (ah 0) ex5 ex6, pd E ap s.1, sc E an Vn, hb E ah (ak0 0) (ak1 0) (ak2 0) (ak3 0) (ak4 0) (ak5 0) Vh, sc E ak0 Vk0, sc E ak1 Vk1, sc E ak2 Vk2, sc E ak3 Vk3, sc E ak4 Vk4, sc E ak5 Vk5] 0 0 [(0, .ref (ax 0)), (1, .int p1), (2, .int s.2.1), (3, .int s.2.2.1), (4, .int s.2.2.2)] [] 38) → ∀ s : Pd × Int32 × Int32 × Int32, b_L_write_177 N Vp Vn Vh Vk0 Vk1 Vk2 Vk3 Vk4 Vk5 p1 K4 K38 s = some o → G E X 6 [xo E ax (ap 0) ex1 (an 0) ex3 (ah 0) ex5 ex6, pd E ap s.1, sc E an Vn, hb E ah (ak0 0) (ak1 0) (ak2 0) (ak3 0) (ak4 0) (ak5 0) Vh, sc E ak0 Vk0, sc E ak1 Vk1, sc E ak2 Vk2, sc E ak3 Vk3, sc E ak4 Vk4, sc E ak5 Vk5] 0 0 [(0, .ref (ax 0)), (1, .int p1), (3, .int s.2.1), (4, .int s.2.2.1)] [.int s.2.2.2] 177 := by
    intro K4 hK4 K38 hK38 s hf
    unfold b_L_write_177 at hf
    refine g_istore_n (lv2 := [(2, .int s.2.2.2), (0, .ref (ax 0)), (1, .int p1), (3, .int s.2.1), (4, .int s.2.2.1)]) C dL_write_177 rfl (by decide) rfl ?_
    refine g_iinc (v := (s.2.2.1 + (1 : Int32))) (lv2 := [(4, .int (s.2.2.1 + (1 : Int32))), (2, .int s.2.2.2), (0, .ref (ax 0)), (1, .int p1), (3, .int s.2.1)]) C dL_write_178 4 rfl (ii (by decide)) (by decide) rfl ?_
    refine g_goto (tgt := 38) C dL_write_181 (by decide) ?_
    refine g_sub (lv2 := [(0, .ref (ax 0)), (1, .int p1), (2, .int s.2.2.2), (3, .int s.2.1), (4, .int (s.2.2.1 + (1 : Int32)))]) [2, 3, 1, 4, 0] rfl ?_
    exact hK38 (s.1, s.2.2.2, s.2.1, (s.2.2.1 + (1 : Int32))) hf
  have h176 : ∀ (K4 : (Pd × Int32 × Int32) → Option (Int32 × Pd)), (∀ s : Pd × Int32 × Int32, K4 s = some o → G E X 6 [xo E ax (ap 0) ex1 (an 0) ex3 (ah 0) ex5 ex6, pd E ap s.1, sc E an Vn, hb E ah (ak0 0) (ak1 0) (ak2 0) (ak3 0) (ak4 0) (ak5 0) Vh, sc E ak0 Vk0, sc E ak1 Vk1, sc E ak2 Vk2, sc E ak3 Vk3, sc E ak4 Vk4, sc E ak5 Vk5] 0 0 [(0, .ref (ax 0)), (1, .int p1), (2, .int s.2.1), (3, .int s.2.2)] [] 4) → ∀ (K38 : (Pd × Int32 × Int32 × Int32) → Option (Int32 × Pd)), (∀ s : Pd × Int32 × Int32 × Int32, K38 s = some o → G E X 6 [xo E ax (ap 0) ex1 (an 0) ex3 (ah 0) ex5 ex6, pd E ap s.1, sc E an Vn, hb E ah (ak0 0) (ak1 0) (ak2 0) (ak3 0) (ak4 0) (ak5 0) Vh, sc E ak0 Vk0, sc E ak1 Vk1, sc E ak2 Vk2, sc E ak3 Vk3, sc E ak4 Vk4, sc E ak5 Vk5] 0 0 [(0, .ref (ax 0)), (1, .int p1), (2, .int s.2.1), (3, .int s.2.2.1), (4, .int s.2.2.2)] [] 38) → ∀ s : Pd × Int32 × Int32, b_L_write_176 N Vp Vn Vh Vk0 Vk1 Vk2 Vk3 Vk4 Vk5 p1 K4 K38 s = some o → G E X 6 [xo E ax (ap 0) ex1 (an 0) ex3 (ah 0) ex5 ex6, pd E ap s.1, sc E an Vn, hb E ah (ak0 0) (ak1 0) (ak2 0) (ak3 0) (ak4 0) (ak5 0) Vh, sc E ak0 Vk0, sc E ak1 Vk1, sc E ak2 Vk2, sc E ak3 Vk3, sc E ak4 Vk4, sc E ak5 Vk5] 0 0 [(0, .ref (ax 0)), (1, .int p1), (3, .int s.2.1), (4, .int s.2.2)] [] 176 := by
    intro K4 hK4 K38 hK38 s hf
    unfold b_L_write_176 at hf
    refine g_iconst (v := (0 : Int32)) C dL_write_176 (by decide) ?_
    exact h177 K4 hK4 K38 hK38 (s.1, s.2.1, s.2.2, (0 : Int32)) hf
  have h172 : ∀ (K4 : (Pd × Int32 × Int32) → Option (Int32 × Pd)), (∀ s : Pd × Int32 × Int32, K4 s = some o → G E X 6 [xo E ax (ap 0) ex1 (an 0) ex3 (ah 0) ex5 ex6, pd E ap s.1, sc E an Vn, hb E ah (ak0 0) (ak1 0) (ak2 0) (ak3 0) (ak4 0) (ak5 0) Vh, sc E ak0 Vk0, sc E ak1 Vk1, sc E ak2 Vk2, sc E ak3 Vk3, sc E ak4 Vk4, sc E ak5 Vk5] 0 0 [(0, .ref (ax 0)), (1, .int p1), (2, .int s.2.1), (3, .int s.2.2)] [] 4) → ∀ (K38 : (Pd × Int32 × Int32 × Int32) → Option (Int32 × Pd)), (∀ s : Pd × Int32 × Int32 × Int32, K38 s = some o → G E X 6 [xo E ax (ap 0) ex1 (an 0) ex3 (ah 0) ex5 ex6, pd E ap s.1, sc E an Vn, hb E ah (ak0 0) (ak1 0) (ak2 0) (ak3 0) (ak4 0) (ak5 0) Vh, sc E ak0 Vk0, sc E ak1 Vk1, sc E ak2 Vk2, sc E ak3 Vk3, sc E ak4 Vk4, sc E ak5 Vk5] 0 0 [(0, .ref (ax 0)), (1, .int p1), (2, .int s.2.1), (3, .int s.2.2.1), (4, .int s.2.2.2)] [] 38) → ∀ s : Pd × Int32 × Int32, b_L_write_172 N Vp Vn Vh Vk0 Vk1 Vk2 Vk3 Vk4 Vk5 p1 K4 K38 s = some o → G E X 6 [xo E ax (ap 0) ex1 (an 0) ex3 (ah 0) ex5 ex6, pd E ap s.1, sc E an Vn, hb E ah (ak0 0) (ak1 0) (ak2 0) (ak3 0) (ak4 0) (ak5 0) Vh, sc E ak0 Vk0, sc E ak1 Vk1, sc E ak2 Vk2, sc E ak3 Vk3, sc E ak4 Vk4, sc E ak5 Vk5] 0 0 [(0, .ref (ax 0)), (1, .int p1), (3, .int s.2.1), (4, .int s.2.2)] [] 172 := by
    intro K4 hK4 K38 hK38 s hf
    unfold b_L_write_172 at hf
    refine g_iconst (v := (1 : Int32)) C dL_write_172 (by decide) ?_
    refine g_goto (tgt := 177) C dL_write_173 (by decide) ?_
    exact h177 K4 hK4 K38 hK38 (s.1, s.2.1, s.2.2, (1 : Int32)) hf
  have h126 : ∀ (K4 : (Pd × Int32 × Int32) → Option (Int32 × Pd)), (∀ s : Pd × Int32 × Int32, K4 s = some o → G E X 6 [xo E ax (ap 0) ex1 (an 0) ex3 (ah 0) ex5 ex6, pd E ap s.1, sc E an Vn, hb E ah (ak0 0) (ak1 0) (ak2 0) (ak3 0) (ak4 0) (ak5 0) Vh, sc E ak0 Vk0, sc E ak1 Vk1, sc E ak2 Vk2, sc E ak3 Vk3, sc E ak4 Vk4, sc E ak5 Vk5] 0 0 [(0, .ref (ax 0)), (1, .int p1), (2, .int s.2.1), (3, .int s.2.2)] [] 4) → ∀ (K38 : (Pd × Int32 × Int32 × Int32) → Option (Int32 × Pd)), (∀ s : Pd × Int32 × Int32 × Int32, K38 s = some o → G E X 6 [xo E ax (ap 0) ex1 (an 0) ex3 (ah 0) ex5 ex6, pd E ap s.1, sc E an Vn, hb E ah (ak0 0) (ak1 0) (ak2 0) (ak3 0) (ak4 0) (ak5 0) Vh, sc E ak0 Vk0, sc E ak1 Vk1, sc E ak2 Vk2, sc E ak3 Vk3, sc E ak4 Vk4, sc E ak5 Vk5] 0 0 [(0, .ref (ax 0)), (1, .int p1), (2, .int s.2.1), (3, .int s.2.2.1), (4, .int s.2.2.2)] [] 38) → ∀ s : Pd × Int32 × Int32 × Int32 × Int32, b_L_write_126 N Vp Vn Vh Vk0 Vk1 Vk2 Vk3 Vk4 Vk5 p1 K4 K38 s = some o → G E X 6 [xo E ax (ap 0) ex1 (an 0) ex3 (ah 0) ex5 ex6, pd E ap s.1, sc E an Vn, hb E ah (ak0 0) (ak1 0) (ak2 0) (ak3 0) (ak4 0) (ak5 0) Vh, sc E ak0 Vk0, sc E ak1 Vk1, sc E ak2 Vk2, sc E ak3 Vk3, sc E ak4 Vk4, sc E ak5 Vk5] 0 0 [(0, .ref (ax 0)), (1, .int p1), (3, .int s.2.1), (4, .int s.2.2.1), (5, .int s.2.2.2.1)] [.int s.2.2.2.2] 126 := by
    intro K4 hK4 K38 hK38 s hf
    unfold b_L_write_126 at hf
    refine g_istore_n (lv2 := [(2, .int s.2.2.2.2), (0, .ref (ax 0)), (1, .int p1), (3, .int s.2.1), (4, .int s.2.2.1), (5, .int s.2.2.2.1)]) C dL_write_126 rfl (by decide) rfl ?_
    refine g_iload_n C dL_write_127 rfl 0 rfl ?_
    refine g_if_eq (tgt := 176) C dL_write_128 (by decide) (fun c1 => ?_) (fun c1 => ?_)
    · have hf := (f_if hf).1 c1
      refine g_sub (lv2 := [(0, .ref (ax 0)), (1, .int p1), (3, .int s.2.1), (4, .int s.2.2.1)]) [1, 2, 3, 4] rfl ?_
      exact h176 K4 hK4 K38 hK38 (s.1, s.2.1, s.2.2.1) hf
    · have hf := (f_if hf).2 c1
      refine g_iload C dL_write_131 5 rfl ?_
      obtain ⟨o2, hq3, hf⟩ := bind_s hf
      refine g_callS (As := [.int s.2.2.2.1]) (rest := []) C k_L_isTwo (fun l => c_L_isTwo (E := E) hq3 l) mt_563 [] rfl (by decide) rfl (Nat.le_of_ble_eq_true rfl) ⟨Nat.le_of_ble_eq_true rfl, Nat.le_of_ble_eq_true rfl, Nat.le_of_ble_eq_true rfl, Nat.le_of_ble_eq_true rfl⟩ dL_write_133 ?_
      rintro _ _ ⟨rfl, rfl⟩
      show G E X 6 [xo E ax (ap 0) ex1 (an 0) ex3 (ah 0) ex5 ex6, pd E ap s.1, sc E an Vn, hb E ah (ak0 0) (ak1 0) (ak2 0) (ak3 0) (ak4 0) (ak5 0) Vh, sc E ak0 Vk0, sc E ak1 Vk1, sc E ak2 Vk2, sc E ak3 Vk3, sc E ak4 Vk4, sc E ak5 Vk5] 0 0 [(2, .int s.2.2.2.2), (0, .ref (ax 0)), (1, .int p1), (3, .int s.2.1), (4, .int s.2.2.1), (5, .int s.2.2.2.1)] [.int o2] 136
      refine g_if_eq (tgt := 172) C dL_write_136 (by decide) (fun c4 => ?_) (fun c4 => ?_)
      · have hf := (f_if hf).1 c4
        refine g_sub (lv2 := [(0, .ref (ax 0)), (1, .int p1), (3, .int s.2.1), (4, .int s.2.2.1)]) [1, 2, 3, 4] rfl ?_
        exact h172 K4 hK4 K38 hK38 (s.1, s.2.1, s.2.2.1) hf
      · have hf := (f_if hf).2 c4
        refine g_aload_n C dL_write_139 rfl 1 rfl ?_
        refine g_bipush (v := (124 : Int32)) C dL_write_140 (by decide) ?_
        obtain ⟨o5, hq6, hf⟩ := bind_s hf
        refine g_callS (As := [.ref (ax 0), .int (124 : Int32)]) (rest := []) C k_L_type (fun l => c_L_type (E := E) (ax := ax) (ex1 := ex1) (ex3 := ex3) (ex5 := ex5) (ex6 := ex6) (ap := ap) (Vp := s.1) (an := an) (Vn := Vn) (ah := ah) (Vh := Vh) (ak0 := ak0) (Vk0 := Vk0) (ak1 := ak1) (Vk1 := Vk1) (ak2 := ak2) (Vk2 := Vk2) (ak3 := ak3) (Vk3 := Vk3) (ak4 := ak4) (Vk4 := Vk4) (ak5 := ak5) (Vk5 := Vk5) hq6 l) mt_536 [0, 1, 2, 3, 4, 5, 6, 7, 8, 9] rfl (by decide) rfl (Nat.le_of_ble_eq_true rfl) ⟨Nat.le_of_ble_eq_true rfl, Nat.le_of_ble_eq_true rfl, Nat.le_of_ble_eq_true rfl, Nat.le_of_ble_eq_true rfl⟩ dL_write_142 ?_
        rintro _ _ ⟨rfl, rfl⟩
        show G E X 6 [xo E ax (ap 0) ex1 (an 0) ex3 (ah 0) ex5 ex6, pd E ap o5.2, sc E an Vn, hb E ah (ak0 0) (ak1 0) (ak2 0) (ak3 0) (ak4 0) (ak5 0) Vh, sc E ak0 Vk0, sc E ak1 Vk1, sc E ak2 Vk2, sc E ak3 Vk3, sc E ak4 Vk4, sc E ak5 Vk5] 0 0 [(2, .int s.2.2.2.2), (0, .ref (ax 0)), (1, .int p1), (3, .int s.2.1), (4, .int s.2.2.1), (5, .int s.2.2.2.1)] [.int o5.1] 145
        refine g_if_eq (tgt := 176) C dL_write_145 (by decide) (fun c7 => ?_) (fun c7 => ?_)
        · have hf := (f_if hf).1 c7
          refine g_sub (lv2 := [(0, .ref (ax 0)), (1, .int p1), (3, .int s.2.1), (4, .int s.2.2.1)]) [1, 2, 3, 4] rfl ?_
          exact h176 K4 hK4 K38 hK38 (o5.2, s.2.1, s.2.2.1) hf
        · have hf := (f_if hf).2 c7
          refine g_aload_n C dL_write_148 rfl 1 rfl ?_
          refine g_iload C dL_write_149 5 rfl ?_
          refine g_bipush (v := (7 : Int32)) C dL_write_151 (by decide) ?_
          refine g_ishr C dL_write_153 ?_
          obtain ⟨o8, hq9, hf⟩ := bind_s hf
          refine g_callS (As := [.int (s.2.2.2.1 >>> ((7 : Int32) &&& 31))]) (rest := [.ref (ax 0)]) C k_L_letter (fun l => c_L_letter (E := E) hq9 l) mt_566 [] rfl (by decide) rfl (Nat.le_of_ble_eq_true rfl) ⟨Nat.le_of_ble_eq_true rfl, Nat.le_of_ble_eq_true rfl, Nat.le_of_ble_eq_true rfl, Nat.le_of_ble_eq_true rfl⟩ dL_write_154 ?_
          rintro _ _ ⟨rfl, rfl⟩
          show G E X 6 [xo E ax (ap 0) ex1 (an 0) ex3 (ah 0) ex5 ex6, pd E ap o5.2, sc E an Vn, hb E ah (ak0 0) (ak1 0) (ak2 0) (ak3 0) (ak4 0) (ak5 0) Vh, sc E ak0 Vk0, sc E ak1 Vk1, sc E ak2 Vk2, sc E ak3 Vk3, sc E ak4 Vk4, sc E ak5 Vk5] 0 0 [(2, .int s.2.2.2.2), (0, .ref (ax 0)), (1, .int p1), (3, .int s.2.1), (4, .int s.2.2.1), (5, .int s.2.2.2.1)] [.int o8, .ref (ax 0)] 157
          obtain ⟨o10, hq11, hf⟩ := bind_s hf
          refine g_callS (As := [.ref (ax 0), .int o8]) (rest := []) C k_L_type (fun l => c_L_type (E := E) (ax := ax) (ex1 := ex1) (ex3 := ex3) (ex5 := ex5) (ex6 := ex6) (ap := ap) (Vp := o5.2) (an := an) (Vn := Vn) (ah := ah) (Vh := Vh) (ak0 := ak0) (Vk0 := Vk0) (ak1 := ak1) (Vk1 := Vk1) (ak2 := ak2) (Vk2 := Vk2) (ak3 := ak3) (Vk3 := Vk3) (ak4 := ak4) (Vk4 := Vk4) (ak5 := ak5) (Vk5 := Vk5) hq11 l) mt_536 [0, 1, 2, 3, 4, 5, 6, 7, 8, 9] rfl (by decide) rfl (Nat.le_of_ble_eq_true rfl) ⟨Nat.le_of_ble_eq_true rfl, Nat.le_of_ble_eq_true rfl, Nat.le_of_ble_eq_true rfl, Nat.le_of_ble_eq_true rfl⟩ dL_write_157 ?_
          rintro _ _ ⟨rfl, rfl⟩
          show G E X 6 [xo E ax (ap 0) ex1 (an 0) ex3 (ah 0) ex5 ex6, pd E ap o10.2, sc E an Vn, hb E ah (ak0 0) (ak1 0) (ak2 0) (ak3 0) (ak4 0) (ak5 0) Vh, sc E ak0 Vk0, sc E ak1 Vk1, sc E ak2 Vk2, sc E ak3 Vk3, sc E ak4 Vk4, sc E ak5 Vk5] 0 0 [(2, .int s.2.2.2.2), (0, .ref (ax 0)), (1, .int p1), (3, .int s.2.1), (4, .int s.2.2.1), (5, .int s.2.2.2.1)] [.int o10.1] 160
          refine g_if_eq (tgt := 176) C dL_write_160 (by decide) (fun c12 => ?_) (fun c12 => ?_)
          · have hf := (f_if hf).1 c12
            refine g_sub (lv2 := [(0, .ref (ax 0)), (1, .int p1), (3, .int s.2.1), (4, .int s.2.2.1)]) [1, 2, 3, 4] rfl ?_
            exact h176 K4 hK4 K38 hK38 (o10.2, s.2.1, s.2.2.1) hf
          · have hf := (f_if hf).2 c12
            refine g_aload_n C dL_write_163 rfl 1 rfl ?_
            refine g_bipush (v := (41 : Int32)) C dL_write_164 (by decide) ?_
            obtain ⟨o13, hq14, hf⟩ := bind_s hf
            refine g_callS (As := [.ref (ax 0), .int (41 : Int32)]) (rest := []) C k_L_type (fun l => c_L_type (E := E) (ax := ax) (ex1 := ex1) (ex3 := ex3) (ex5 := ex5) (ex6 := ex6) (ap := ap) (Vp := o10.2) (an := an) (Vn := Vn) (ah := ah) (Vh := Vh) (ak0 := ak0) (Vk0 := Vk0) (ak1 := ak1) (Vk1 := Vk1) (ak2 := ak2) (Vk2 := Vk2) (ak3 := ak3) (Vk3 := Vk3) (ak4 := ak4) (Vk4 := Vk4) (ak5 := ak5) (Vk5 := Vk5) hq14 l) mt_536 [0, 1, 2, 3, 4, 5, 6, 7, 8, 9] rfl (by decide) rfl (Nat.le_of_ble_eq_true rfl) ⟨Nat.le_of_ble_eq_true rfl, Nat.le_of_ble_eq_true rfl, Nat.le_of_ble_eq_true rfl, Nat.le_of_ble_eq_true rfl⟩ dL_write_166 ?_
            rintro _ _ ⟨rfl, rfl⟩
            show G E X 6 [xo E ax (ap 0) ex1 (an 0) ex3 (ah 0) ex5 ex6, pd E ap o13.2, sc E an Vn, hb E ah (ak0 0) (ak1 0) (ak2 0) (ak3 0) (ak4 0) (ak5 0) Vh, sc E ak0 Vk0, sc E ak1 Vk1, sc E ak2 Vk2, sc E ak3 Vk3, sc E ak4 Vk4, sc E ak5 Vk5] 0 0 [(2, .int s.2.2.2.2), (0, .ref (ax 0)), (1, .int p1), (3, .int s.2.1), (4, .int s.2.2.1), (5, .int s.2.2.2.1)] [.int o13.1] 169
            refine g_if_eq (tgt := 176) C dL_write_169 (by decide) (fun c15 => ?_) (fun c15 => ?_)
            · have hf := (f_if hf).1 c15
              refine g_sub (lv2 := [(0, .ref (ax 0)), (1, .int p1), (3, .int s.2.1), (4, .int s.2.2.1)]) [1, 2, 3, 4] rfl ?_
              exact h176 K4 hK4 K38 hK38 (o13.2, s.2.1, s.2.2.1) hf
            · have hf := (f_if hf).2 c15
              refine g_sub (lv2 := [(0, .ref (ax 0)), (1, .int p1), (3, .int s.2.1), (4, .int s.2.2.1)]) [1, 2, 3, 4] rfl ?_
              exact h172 K4 hK4 K38 hK38 (o13.2, s.2.1, s.2.2.1) hf
  have h125 : ∀ (K4 : (Pd × Int32 × Int32) → Option (Int32 × Pd)), (∀ s : Pd × Int32 × Int32, K4 s = some o → G E X 6 [xo E ax (ap 0) ex1 (an 0) ex3 (ah 0) ex5 ex6, pd E ap s.1, sc E an Vn, hb E ah (ak0 0) (ak1 0) (ak2 0) (ak3 0) (ak4 0) (ak5 0) Vh, sc E ak0 Vk0, sc E ak1 Vk1, sc E ak2 Vk2, sc E ak3 Vk3, sc E ak4 Vk4, sc E ak5 Vk5] 0 0 [(0, .ref (ax 0)), (1, .int p1), (2, .int s.2.1), (3, .int s.2.2)] [] 4) → ∀ (K38 : (Pd × Int32 × Int32 × Int32) → Option (Int32 × Pd)), (∀ s : Pd × Int32 × Int32 × Int32, K38 s = some o → G E X 6 [xo E ax (ap 0) ex1 (an 0) ex3 (ah 0) ex5 ex6, pd E ap s.1, sc E an Vn, hb E ah (ak0 0) (ak1 0) (ak2 0) (ak3 0) (ak4 0) (ak5 0) Vh, sc E ak0 Vk0, sc E ak1 Vk1, sc E ak2 Vk2, sc E ak3 Vk3, sc E ak4 Vk4, sc E ak5 Vk5] 0 0 [(0, .ref (ax 0)), (1, .int p1), (2, .int s.2.1), (3, .int s.2.2.1), (4, .int s.2.2.2)] [] 38) → ∀ s : Pd × Int32 × Int32 × Int32, b_L_write_125 N Vp Vn Vh Vk0 Vk1 Vk2 Vk3 Vk4 Vk5 p1 K4 K38 s = some o → G E X 6 [xo E ax (ap 0) ex1 (an 0) ex3 (ah 0) ex5 ex6, pd E ap s.1, sc E an Vn, hb E ah (ak0 0) (ak1 0) (ak2 0) (ak3 0) (ak4 0) (ak5 0) Vh, sc E ak0 Vk0, sc E ak1 Vk1, sc E ak2 Vk2, sc E ak3 Vk3, sc E ak4 Vk4, sc E ak5 Vk5] 0 0 [(0, .ref (ax 0)), (1, .int p1), (3, .int s.2.1), (4, .int s.2.2.1), (5, .int s.2.2.2)] [] 125 := by
    intro K4 hK4 K38 hK38 s hf
    unfold b_L_write_125 at hf
    refine g_iconst (v := (0 : Int32)) C dL_write_125 (by decide) ?_
    exact h126 K4 hK4 K38 hK38 (s.1, s.2.1, s.2.2.1, s.2.2.2, (0 : Int32)) hf
  have h109 : ∀ (K4 : (Pd × Int32 × Int32) → Option (Int32 × Pd)), (∀ s : Pd × Int32 × Int32, K4 s = some o → G E X 6 [xo E ax (ap 0) ex1 (an 0) ex3 (ah 0) ex5 ex6, pd E ap s.1, sc E an Vn, hb E ah (ak0 0) (ak1 0) (ak2 0) (ak3 0) (ak4 0) (ak5 0) Vh, sc E ak0 Vk0, sc E ak1 Vk1, sc E ak2 Vk2, sc E ak3 Vk3, sc E ak4 Vk4, sc E ak5 Vk5] 0 0 [(0, .ref (ax 0)), (1, .int p1), (2, .int s.2.1), (3, .int s.2.2)] [] 4) → ∀ (K38 : (Pd × Int32 × Int32 × Int32) → Option (Int32 × Pd)), (∀ s : Pd × Int32 × Int32 × Int32, K38 s = some o → G E X 6 [xo E ax (ap 0) ex1 (an 0) ex3 (ah 0) ex5 ex6, pd E ap s.1, sc E an Vn, hb E ah (ak0 0) (ak1 0) (ak2 0) (ak3 0) (ak4 0) (ak5 0) Vh, sc E ak0 Vk0, sc E ak1 Vk1, sc E ak2 Vk2, sc E ak3 Vk3, sc E ak4 Vk4, sc E ak5 Vk5] 0 0 [(0, .ref (ax 0)), (1, .int p1), (2, .int s.2.1), (3, .int s.2.2.1), (4, .int s.2.2.2)] [] 38) → ∀ s : Pd × Int32 × Int32 × Int32, b_L_write_109 N Vp Vn Vh Vk0 Vk1 Vk2 Vk3 Vk4 Vk5 p1 K4 K38 s = some o → G E X 6 [xo E ax (ap 0) ex1 (an 0) ex3 (ah 0) ex5 ex6, pd E ap s.1, sc E an Vn, hb E ah (ak0 0) (ak1 0) (ak2 0) (ak3 0) (ak4 0) (ak5 0) Vh, sc E ak0 Vk0, sc E ak1 Vk1, sc E ak2 Vk2, sc E ak3 Vk3, sc E ak4 Vk4, sc E ak5 Vk5] 0 0 [(0, .ref (ax 0)), (1, .int p1), (3, .int s.2.1), (4, .int s.2.2.1), (5, .int s.2.2.2)] [] 109 := by
    intro K4 hK4 K38 hK38 s hf
    unfold b_L_write_109 at hf
    refine g_aload_n C dL_write_109 rfl 0 rfl ?_
    refine g_iload C dL_write_110 4 rfl ?_
    obtain ⟨o16, hq17, hf⟩ := bind_s hf
    refine g_callS (As := [.int s.2.2.2]) (rest := [.ref (ax 0)]) C k_L_letter (fun l => c_L_letter (E := E) hq17 l) mt_566 [] rfl (by decide) rfl (Nat.le_of_ble_eq_true rfl) ⟨Nat.le_of_ble_eq_true rfl, Nat.le_of_ble_eq_true rfl, Nat.le_of_ble_eq_true rfl, Nat.le_of_ble_eq_true rfl⟩ dL_write_112 ?_
    rintro _ _ ⟨rfl, rfl⟩
    show G E X 6 [xo E ax (ap 0) ex1 (an 0) ex3 (ah 0) ex5 ex6, pd E ap s.1, sc E an Vn, hb E ah (ak0 0) (ak1 0) (ak2 0) (ak3 0) (ak4 0) (ak5 0) Vh, sc E ak0 Vk0, sc E ak1 Vk1, sc E ak2 Vk2, sc E ak3 Vk3, sc E ak4 Vk4, sc E ak5 Vk5] 0 0 [(0, .ref (ax 0)), (1, .int p1), (3, .int s.2.1), (4, .int s.2.2.1), (5, .int s.2.2.2)] [.int o16, .ref (ax 0)] 115
    obtain ⟨o18, hq19, hf⟩ := bind_s hf
    refine g_callS (As := [.ref (ax 0), .int o16]) (rest := []) C k_L_type (fun l => c_L_type (E := E) (ax := ax) (ex1 := ex1) (ex3 := ex3) (ex5 := ex5) (ex6 := ex6) (ap := ap) (Vp := s.1) (an := an) (Vn := Vn) (ah := ah) (Vh := Vh) (ak0 := ak0) (Vk0 := Vk0) (ak1 := ak1) (Vk1 := Vk1) (ak2 := ak2) (Vk2 := Vk2) (ak3 := ak3) (Vk3 := Vk3) (ak4 := ak4) (Vk4 := Vk4) (ak5 := ak5) (Vk5 := Vk5) hq19 l) mt_536 [0, 1, 2, 3, 4, 5, 6, 7, 8, 9] rfl (by decide) rfl (Nat.le_of_ble_eq_true rfl) ⟨Nat.le_of_ble_eq_true rfl, Nat.le_of_ble_eq_true rfl, Nat.le_of_ble_eq_true rfl, Nat.le_of_ble_eq_true rfl⟩ dL_write_115 ?_
    rintro _ _ ⟨rfl, rfl⟩
    show G E X 6 [xo E ax (ap 0) ex1 (an 0) ex3 (ah 0) ex5 ex6, pd E ap o18.2, sc E an Vn, hb E ah (ak0 0) (ak1 0) (ak2 0) (ak3 0) (ak4 0) (ak5 0) Vh, sc E ak0 Vk0, sc E ak1 Vk1, sc E ak2 Vk2, sc E ak3 Vk3, sc E ak4 Vk4, sc E ak5 Vk5] 0 0 [(0, .ref (ax 0)), (1, .int p1), (3, .int s.2.1), (4, .int s.2.2.1), (5, .int s.2.2.2)] [.int o18.1] 118
    refine g_if_eq (tgt := 125) C dL_write_118 (by decide) (fun c20 => ?_) (fun c20 => ?_)
    · have hf := (f_if hf).1 c20
      exact h125 K4 hK4 K38 hK38 (o18.2, s.2.1, s.2.2.1, s.2.2.2) hf
    · have hf := (f_if hf).2 c20
      refine g_iconst (v := (1 : Int32)) C dL_write_121 (by decide) ?_
      refine g_goto (tgt := 126) C dL_write_122 (by decide) ?_
      exact h126 K4 hK4 K38 hK38 (o18.2, s.2.1, s.2.2.1, s.2.2.2, (1 : Int32)) hf
  have h92 : ∀ (K4 : (Pd × Int32 × Int32) → Option (Int32 × Pd)), (∀ s : Pd × Int32 × Int32, K4 s = some o → G E X 6 [xo E ax (ap 0) ex1 (an 0) ex3 (ah 0) ex5 ex6, pd E ap s.1, sc E an Vn, hb E ah (ak0 0) (ak1 0) (ak2 0) (ak3 0) (ak4 0) (ak5 0) Vh, sc E ak0 Vk0, sc E ak1 Vk1, sc E ak2 Vk2, sc E ak3 Vk3, sc E ak4 Vk4, sc E ak5 Vk5] 0 0 [(0, .ref (ax 0)), (1, .int p1), (2, .int s.2.1), (3, .int s.2.2)] [] 4) → ∀ (K38 : (Pd × Int32 × Int32 × Int32) → Option (Int32 × Pd)), (∀ s : Pd × Int32 × Int32 × Int32, K38 s = some o → G E X 6 [xo E ax (ap 0) ex1 (an 0) ex3 (ah 0) ex5 ex6, pd E ap s.1, sc E an Vn, hb E ah (ak0 0) (ak1 0) (ak2 0) (ak3 0) (ak4 0) (ak5 0) Vh, sc E ak0 Vk0, sc E ak1 Vk1, sc E ak2 Vk2, sc E ak3 Vk3, sc E ak4 Vk4, sc E ak5 Vk5] 0 0 [(0, .ref (ax 0)), (1, .int p1), (2, .int s.2.1), (3, .int s.2.2.1), (4, .int s.2.2.2)] [] 38) → ∀ s : Pd × Int32 × Int32 × Int32, b_L_write_92 N Vp Vn Vh Vk0 Vk1 Vk2 Vk3 Vk4 Vk5 p1 K4 K38 s = some o → G E X 6 [xo E ax (ap 0) ex1 (an 0) ex3 (ah 0) ex5 ex6, pd E ap s.1, sc E an Vn, hb E ah (ak0 0) (ak1 0) (ak2 0) (ak3 0) (ak4 0) (ak5 0) Vh, sc E ak0 Vk0, sc E ak1 Vk1, sc E ak2 Vk2, sc E ak3 Vk3, sc E ak4 Vk4, sc E ak5 Vk5] 0 0 [(0, .ref (ax 0)), (1, .int p1), (3, .int s.2.1), (4, .int s.2.2.1), (5, .int s.2.2.2)] [] 92 := by
    intro K4 hK4 K38 hK38 s hf
    unfold b_L_write_92 at hf
    refine g_iload C dL_write_92 4 rfl ?_
    obtain ⟨o21, hq22, hf⟩ := bind_s hf
    refine g_callS (As := [.int s.2.2.2]) (rest := []) C k_L_isTwo (fun l => c_L_isTwo (E := E) hq22 l) mt_563 [] rfl (by decide) rfl (Nat.le_of_ble_eq_true rfl) ⟨Nat.le_of_ble_eq_true rfl, Nat.le_of_ble_eq_true rfl, Nat.le_of_ble_eq_true rfl, Nat.le_of_ble_eq_true rfl⟩ dL_write_94 ?_
    rintro _ _ ⟨rfl, rfl⟩
    show G E X 6 [xo E ax (ap 0) ex1 (an 0) ex3 (ah 0) ex5 ex6, pd E ap s.1, sc E an Vn, hb E ah (ak0 0) (ak1 0) (ak2 0) (ak3 0) (ak4 0) (ak5 0) Vh, sc E ak0 Vk0, sc E ak1 Vk1, sc E ak2 Vk2, sc E ak3 Vk3, sc E ak4 Vk4, sc E ak5 Vk5] 0 0 [(0, .ref (ax 0)), (1, .int p1), (3, .int s.2.1), (4, .int s.2.2.1), (5, .int s.2.2.2)] [.int o21] 97
    refine g_if_eq (tgt := 109) C dL_write_97 (by decide) (fun c23 => ?_) (fun c23 => ?_)
    · have hf := (f_if hf).1 c23
      exact h109 K4 hK4 K38 hK38 (s.1, s.2.1, s.2.2.1, s.2.2.2) hf
    · have hf := (f_if hf).2 c23
      refine g_aload_n C dL_write_100 rfl 0 rfl ?_
      refine g_bipush (v := (40 : Int32)) C dL_write_101 (by decide) ?_
      obtain ⟨o24, hq25, hf⟩ := bind_s hf
      refine g_callS (As := [.ref (ax 0), .int (40 : Int32)]) (rest := []) C k_L_type (fun l => c_L_type (E := E) (ax := ax) (ex1 := ex1) (ex3 := ex3) (ex5 := ex5) (ex6 := ex6) (ap := ap) (Vp := s.1) (an := an) (Vn := Vn) (ah := ah) (Vh := Vh) (ak0 := ak0) (Vk0 := Vk0) (ak1 := ak1) (Vk1 := Vk1) (ak2 := ak2) (Vk2 := Vk2) (ak3 := ak3) (Vk3 := Vk3) (ak4 := ak4) (Vk4 := Vk4) (ak5 := ak5) (Vk5 := Vk5) hq25 l) mt_536 [0, 1, 2, 3, 4, 5, 6, 7, 8, 9] rfl (by decide) rfl (Nat.le_of_ble_eq_true rfl) ⟨Nat.le_of_ble_eq_true rfl, Nat.le_of_ble_eq_true rfl, Nat.le_of_ble_eq_true rfl, Nat.le_of_ble_eq_true rfl⟩ dL_write_103 ?_
      rintro _ _ ⟨rfl, rfl⟩
      show G E X 6 [xo E ax (ap 0) ex1 (an 0) ex3 (ah 0) ex5 ex6, pd E ap o24.2, sc E an Vn, hb E ah (ak0 0) (ak1 0) (ak2 0) (ak3 0) (ak4 0) (ak5 0) Vh, sc E ak0 Vk0, sc E ak1 Vk1, sc E ak2 Vk2, sc E ak3 Vk3, sc E ak4 Vk4, sc E ak5 Vk5] 0 0 [(0, .ref (ax 0)), (1, .int p1), (3, .int s.2.1), (4, .int s.2.2.1), (5, .int s.2.2.2)] [.int o24.1] 106
      refine g_if_eq (tgt := 125) C dL_write_106 (by decide) (fun c26 => ?_) (fun c26 => ?_)
      · have hf := (f_if hf).1 c26
        exact h125 K4 hK4 K38 hK38 (o24.2, s.2.1, s.2.2.1, s.2.2.2) hf
      · have hf := (f_if hf).2 c26
        exact h109 K4 hK4 K38 hK38 (o24.2, s.2.1, s.2.2.1, s.2.2.2) hf
  have h75 : ∀ (K4 : (Pd × Int32 × Int32) → Option (Int32 × Pd)), (∀ s : Pd × Int32 × Int32, K4 s = some o → G E X 6 [xo E ax (ap 0) ex1 (an 0) ex3 (ah 0) ex5 ex6, pd E ap s.1, sc E an Vn, hb E ah (ak0 0) (ak1 0) (ak2 0) (ak3 0) (ak4 0) (ak5 0) Vh, sc E ak0 Vk0, sc E ak1 Vk1, sc E ak2 Vk2, sc E ak3 Vk3, sc E ak4 Vk4, sc E ak5 Vk5] 0 0 [(0, .ref (ax 0)), (1, .int p1), (2, .int s.2.1), (3, .int s.2.2)] [] 4) → ∀ (K38 : (Pd × Int32 × Int32 × Int32) → Option (Int32 × Pd)), (∀ s : Pd × Int32 × Int32 × Int32, K38 s = some o → G E X 6 [xo E ax (ap 0) ex1 (an 0) ex3 (ah 0) ex5 ex6, pd E ap s.1, sc E an Vn, hb E ah (ak0 0) (ak1 0) (ak2 0) (ak3 0) (ak4 0) (ak5 0) Vh, sc E ak0 Vk0, sc E ak1 Vk1, sc E ak2 Vk2, sc E ak3 Vk3, sc E ak4 Vk4, sc E ak5 Vk5] 0 0 [(0, .ref (ax 0)), (1, .int p1), (2, .int s.2.1), (3, .int s.2.2.1), (4, .int s.2.2.2)] [] 38) → ∀ s : Pd × Int32 × Int32 × Int32, b_L_write_75 N Vp Vn Vh Vk0 Vk1 Vk2 Vk3 Vk4 Vk5 p1 K4 K38 s = some o → G E X 6 [xo E ax (ap 0) ex1 (an 0) ex3 (ah 0) ex5 ex6, pd E ap s.1, sc E an Vn, hb E ah (ak0 0) (ak1 0) (ak2 0) (ak3 0) (ak4 0) (ak5 0) Vh, sc E ak0 Vk0, sc E ak1 Vk1, sc E ak2 Vk2, sc E ak3 Vk3, sc E ak4 Vk4, sc E ak5 Vk5] 0 0 [(0, .ref (ax 0)), (1, .int p1), (3, .int s.2.1), (4, .int s.2.2.1), (5, .int s.2.2.2)] [] 75 := by
    intro K4 hK4 K38 hK38 s hf
    unfold b_L_write_75 at hf
    refine g_iload C dL_write_75 4 rfl ?_
    obtain ⟨o27, hq28, hf⟩ := bind_s hf
    refine g_callS (As := [.int s.2.2.2]) (rest := []) C k_L_isNot (fun l => c_L_isNot (E := E) hq28 l) mt_560 [] rfl (by decide) rfl (Nat.le_of_ble_eq_true rfl) ⟨Nat.le_of_ble_eq_true rfl, Nat.le_of_ble_eq_true rfl, Nat.le_of_ble_eq_true rfl, Nat.le_of_ble_eq_true rfl⟩ dL_write_77 ?_
    rintro _ _ ⟨rfl, rfl⟩
    show G E X 6 [xo E ax (ap 0) ex1 (an 0) ex3 (ah 0) ex5 ex6, pd E ap s.1, sc E an Vn, hb E ah (ak0 0) (ak1 0) (ak2 0) (ak3 0) (ak4 0) (ak5 0) Vh, sc E ak0 Vk0, sc E ak1 Vk1, sc E ak2 Vk2, sc E ak3 Vk3, sc E ak4 Vk4, sc E ak5 Vk5] 0 0 [(0, .ref (ax 0)), (1, .int p1), (3, .int s.2.1), (4, .int s.2.2.1), (5, .int s.2.2.2)] [.int o27] 80
    refine g_if_eq (tgt := 92) C dL_write_80 (by decide) (fun c29 => ?_) (fun c29 => ?_)
    · have hf := (f_if hf).1 c29
      exact h92 K4 hK4 K38 hK38 (s.1, s.2.1, s.2.2.1, s.2.2.2) hf
    · have hf := (f_if hf).2 c29
      refine g_aload_n C dL_write_83 rfl 0 rfl ?_
      refine g_bipush (v := (33 : Int32)) C dL_write_84 (by decide) ?_
      obtain ⟨o30, hq31, hf⟩ := bind_s hf
      refine g_callS (As := [.ref (ax 0), .int (33 : Int32)]) (rest := []) C k_L_type (fun l => c_L_type (E := E) (ax := ax) (ex1 := ex1) (ex3 := ex3) (ex5 := ex5) (ex6 := ex6) (ap := ap) (Vp := s.1) (an := an) (Vn := Vn) (ah := ah) (Vh := Vh) (ak0 := ak0) (Vk0 := Vk0) (ak1 := ak1) (Vk1 := Vk1) (ak2 := ak2) (Vk2 := Vk2) (ak3 := ak3) (Vk3 := Vk3) (ak4 := ak4) (Vk4 := Vk4) (ak5 := ak5) (Vk5 := Vk5) hq31 l) mt_536 [0, 1, 2, 3, 4, 5, 6, 7, 8, 9] rfl (by decide) rfl (Nat.le_of_ble_eq_true rfl) ⟨Nat.le_of_ble_eq_true rfl, Nat.le_of_ble_eq_true rfl, Nat.le_of_ble_eq_true rfl, Nat.le_of_ble_eq_true rfl⟩ dL_write_86 ?_
      rintro _ _ ⟨rfl, rfl⟩
      show G E X 6 [xo E ax (ap 0) ex1 (an 0) ex3 (ah 0) ex5 ex6, pd E ap o30.2, sc E an Vn, hb E ah (ak0 0) (ak1 0) (ak2 0) (ak3 0) (ak4 0) (ak5 0) Vh, sc E ak0 Vk0, sc E ak1 Vk1, sc E ak2 Vk2, sc E ak3 Vk3, sc E ak4 Vk4, sc E ak5 Vk5] 0 0 [(0, .ref (ax 0)), (1, .int p1), (3, .int s.2.1), (4, .int s.2.2.1), (5, .int s.2.2.2)] [.int o30.1] 89
      refine g_if_eq (tgt := 125) C dL_write_89 (by decide) (fun c32 => ?_) (fun c32 => ?_)
      · have hf := (f_if hf).1 c32
        exact h125 K4 hK4 K38 hK38 (o30.2, s.2.1, s.2.2.1, s.2.2.2) hf
      · have hf := (f_if hf).2 c32
        exact h92 K4 hK4 K38 hK38 (o30.2, s.2.1, s.2.2.1, s.2.2.2) hf
  have h38 : ∀ (K4 : (Pd × Int32 × Int32) → Option (Int32 × Pd)), (∀ s : Pd × Int32 × Int32, K4 s = some o → G E X 6 [xo E ax (ap 0) ex1 (an 0) ex3 (ah 0) ex5 ex6, pd E ap s.1, sc E an Vn, hb E ah (ak0 0) (ak1 0) (ak2 0) (ak3 0) (ak4 0) (ak5 0) Vh, sc E ak0 Vk0, sc E ak1 Vk1, sc E ak2 Vk2, sc E ak3 Vk3, sc E ak4 Vk4, sc E ak5 Vk5] 0 0 [(0, .ref (ax 0)), (1, .int p1), (2, .int s.2.1), (3, .int s.2.2)] [] 4) → ∀ (n : Nat) (s : Pd × Int32 × Int32 × Int32), lp (b_L_write_38 N Vp Vn Vh Vk0 Vk1 Vk2 Vk3 Vk4 Vk5 p1 K4) n s = some o → G E X 6 [xo E ax (ap 0) ex1 (an 0) ex3 (ah 0) ex5 ex6, pd E ap s.1, sc E an Vn, hb E ah (ak0 0) (ak1 0) (ak2 0) (ak3 0) (ak4 0) (ak5 0) Vh, sc E ak0 Vk0, sc E ak1 Vk1, sc E ak2 Vk2, sc E ak3 Vk3, sc E ak4 Vk4, sc E ak5 Vk5] 0 0 [(0, .ref (ax 0)), (1, .int p1), (2, .int s.2.1), (3, .int s.2.2.1), (4, .int s.2.2.2)] [] 38 := by
    intro K4 hK4 
    refine lp_ind ?_
    intro K38 hK38 s hf
    unfold b_L_write_38 at hf
    refine g_iload C dL_write_38 4 rfl ?_
    refine g_iload_n C dL_write_40 rfl 1 rfl ?_
    refine g_iload_n C dL_write_41 rfl 3 rfl ?_
    obtain ⟨o33, hq34, hf⟩ := bind_s hf
    refine g_callS (As := [.int p1, .int s.2.2.1]) (rest := [.int s.2.2.2]) C k_L_partsOf (fun l => c_L_partsOf (E := E) hq34 l) mt_554 [] rfl (by decide) rfl (Nat.le_of_ble_eq_true rfl) ⟨Nat.le_of_ble_eq_true rfl, Nat.le_of_ble_eq_true rfl, Nat.le_of_ble_eq_true rfl, Nat.le_of_ble_eq_true rfl⟩ dL_write_42 ?_
    rintro _ _ ⟨rfl, rfl⟩
    show G E X 6 [xo E ax (ap 0) ex1 (an 0) ex3 (ah 0) ex5 ex6, pd E ap s.1, sc E an Vn, hb E ah (ak0 0) (ak1 0) (ak2 0) (ak3 0) (ak4 0) (ak5 0) Vh, sc E ak0 Vk0, sc E ak1 Vk1, sc E ak2 Vk2, sc E ak3 Vk3, sc E ak4 Vk4, sc E ak5 Vk5] 0 0 [(0, .ref (ax 0)), (1, .int p1), (2, .int s.2.1), (3, .int s.2.2.1), (4, .int s.2.2.2)] [.int o33, .int s.2.2.2] 45
    refine g_icmp_ge (tgt := 184) C dL_write_45 (by decide) (fun c35 => ?_) (fun c35 => ?_)
    · have hf := (f_if hf).1 c35
      refine g_iinc (v := (s.2.2.1 + (1 : Int32))) (lv2 := [(3, .int (s.2.2.1 + (1 : Int32))), (0, .ref (ax 0)), (1, .int p1), (2, .int s.2.1), (4, .int s.2.2.2)]) C dL_write_184 3 rfl (ii (by decide)) (by decide) rfl ?_
      refine g_goto (tgt := 4) C dL_write_187 (by decide) ?_
      refine g_sub (lv2 := [(0, .ref (ax 0)), (1, .int p1), (2, .int s.2.1), (3, .int (s.2.2.1 + (1 : Int32)))]) [1, 2, 3, 0] rfl ?_
      exact hK4 (s.1, s.2.1, (s.2.2.1 + (1 : Int32))) hf
    · have hf := (f_if hf).2 c35
      refine g_iload_n C dL_write_48 rfl 1 rfl ?_
      refine g_iload_n C dL_write_49 rfl 3 rfl ?_
      refine g_iload C dL_write_50 4 rfl ?_
      obtain ⟨o36, hq37, hf⟩ := bind_s hf
      refine g_callS (As := [.int p1, .int s.2.2.1, .int s.2.2.2]) (rest := []) C k_L_part (fun l => c_L_part (E := E) hq37 l) mt_557 [] rfl (by decide) rfl (Nat.le_of_ble_eq_true rfl) ⟨Nat.le_of_ble_eq_true rfl, Nat.le_of_ble_eq_true rfl, Nat.le_of_ble_eq_true rfl, Nat.le_of_ble_eq_true rfl⟩ dL_write_52 ?_
      rintro _ _ ⟨rfl, rfl⟩
      show G E X 6 [xo E ax (ap 0) ex1 (an 0) ex3 (ah 0) ex5 ex6, pd E ap s.1, sc E an Vn, hb E ah (ak0 0) (ak1 0) (ak2 0) (ak3 0) (ak4 0) (ak5 0) Vh, sc E ak0 Vk0, sc E ak1 Vk1, sc E ak2 Vk2, sc E ak3 Vk3, sc E ak4 Vk4, sc E ak5 Vk5] 0 0 [(0, .ref (ax 0)), (1, .int p1), (2, .int s.2.1), (3, .int s.2.2.1), (4, .int s.2.2.2)] [.int o36] 55
      refine g_istore (lv2 := [(5, .int o36), (0, .ref (ax 0)), (1, .int p1), (2, .int s.2.1), (3, .int s.2.2.1), (4, .int s.2.2.2)]) C dL_write_55 (by decide) rfl ?_
      refine g_iload_n C dL_write_57 rfl 3 rfl ?_
      refine g_if_eq (tgt := 125) C dL_write_58 (by decide) (fun c38 => ?_) (fun c38 => ?_)
      · have hf := (f_if hf).1 c38
        refine g_sub (lv2 := [(0, .ref (ax 0)), (1, .int p1), (3, .int s.2.2.1), (4, .int s.2.2.2), (5, .int o36)]) [1, 2, 4, 5, 0] rfl ?_
        exact h125 K4 hK4 K38 hK38 (s.1, s.2.2.1, s.2.2.2, o36) hf
      · have hf := (f_if hf).2 c38
        refine g_iload C dL_write_61 5 rfl ?_
        refine g_if_eq (tgt := 75) C dL_write_63 (by decide) (fun c39 => ?_) (fun c39 => ?_)
        · have hf := (f_if hf).1 c39
          refine g_sub (lv2 := [(0, .ref (ax 0)), (1, .int p1), (3, .int s.2.2.1), (4, .int s.2.2.2), (5, .int o36)]) [1, 2, 4, 5, 0] rfl ?_
          exact h75 K4 hK4 K38 hK38 (s.1, s.2.2.1, s.2.2.2, o36) hf
        · have hf := (f_if hf).2 c39
          refine g_aload_n C dL_write_66 rfl 1 rfl ?_
          refine g_bipush (v := (38 : Int32)) C dL_write_67 (by decide) ?_
          obtain ⟨o40, hq41, hf⟩ := bind_s hf
          refine g_callS (As := [.ref (ax 0), .int (38 : Int32)]) (rest := []) C k_L_type (fun l => c_L_type (E := E) (ax := ax) (ex1 := ex1) (ex3 := ex3) (ex5 := ex5) (ex6 := ex6) (ap := ap) (Vp := s.1) (an := an) (Vn := Vn) (ah := ah) (Vh := Vh) (ak0 := ak0) (Vk0 := Vk0) (ak1 := ak1) (Vk1 := Vk1) (ak2 := ak2) (Vk2 := Vk2) (ak3 := ak3) (Vk3 := Vk3) (ak4 := ak4) (Vk4 := Vk4) (ak5 := ak5) (Vk5 := Vk5) hq41 l) mt_536 [0, 1, 2, 3, 4, 5, 6, 7, 8, 9] rfl (by decide) rfl (Nat.le_of_ble_eq_true rfl) ⟨Nat.le_of_ble_eq_true rfl, Nat.le_of_ble_eq_true rfl, Nat.le_of_ble_eq_true rfl, Nat.le_of_ble_eq_true rfl⟩ dL_write_69 ?_
          rintro _ _ ⟨rfl, rfl⟩
          show G E X 6 [xo E ax (ap 0) ex1 (an 0) ex3 (ah 0) ex5 ex6, pd E ap o40.2, sc E an Vn, hb E ah (ak0 0) (ak1 0) (ak2 0) (ak3 0) (ak4 0) (ak5 0) Vh, sc E ak0 Vk0, sc E ak1 Vk1, sc E ak2 Vk2, sc E ak3 Vk3, sc E ak4 Vk4, sc E ak5 Vk5] 0 0 [(5, .int o36), (0, .ref (ax 0)), (1, .int p1), (2, .int s.2.1), (3, .int s.2.2.1), (4, .int s.2.2.2)] [.int o40.1] 72
          refine g_if_eq (tgt := 125) C dL_write_72 (by decide) (fun c42 => ?_) (fun c42 => ?_)
          · have hf := (f_if hf).1 c42
            refine g_sub (lv2 := [(0, .ref (ax 0)), (1, .int p1), (3, .int s.2.2.1), (4, .int s.2.2.2), (5, .int o36)]) [1, 2, 4, 5, 0] rfl ?_
            exact h125 K4 hK4 K38 hK38 (o40.2, s.2.2.1, s.2.2.2, o36) hf
          · have hf := (f_if hf).2 c42
            refine g_sub (lv2 := [(0, .ref (ax 0)), (1, .int p1), (3, .int s.2.2.1), (4, .int s.2.2.2), (5, .int o36)]) [1, 2, 4, 5, 0] rfl ?_
            exact h75 K4 hK4 K38 hK38 (o40.2, s.2.2.1, s.2.2.2, o36) hf
  have h34 : ∀ (K4 : (Pd × Int32 × Int32) → Option (Int32 × Pd)), (∀ s : Pd × Int32 × Int32, K4 s = some o → G E X 6 [xo E ax (ap 0) ex1 (an 0) ex3 (ah 0) ex5 ex6, pd E ap s.1, sc E an Vn, hb E ah (ak0 0) (ak1 0) (ak2 0) (ak3 0) (ak4 0) (ak5 0) Vh, sc E ak0 Vk0, sc E ak1 Vk1, sc E ak2 Vk2, sc E ak3 Vk3, sc E ak4 Vk4, sc E ak5 Vk5] 0 0 [(0, .ref (ax 0)), (1, .int p1), (2, .int s.2.1), (3, .int s.2.2)] [] 4) → ∀ s : Pd × Int32 × Int32, b_L_write_34 N Vp Vn Vh Vk0 Vk1 Vk2 Vk3 Vk4 Vk5 p1 K4 s = some o → G E X 6 [xo E ax (ap 0) ex1 (an 0) ex3 (ah 0) ex5 ex6, pd E ap s.1, sc E an Vn, hb E ah (ak0 0) (ak1 0) (ak2 0) (ak3 0) (ak4 0) (ak5 0) Vh, sc E ak0 Vk0, sc E ak1 Vk1, sc E ak2 Vk2, sc E ak3 Vk3, sc E ak4 Vk4, sc E ak5 Vk5] 0 0 [(0, .ref (ax 0)), (1, .int p1), (3, .int s.2.1)] [.int s.2.2] 34 := by
    intro K4 hK4 s hf
    unfold b_L_write_34 at hf
    refine g_istore_n (lv2 := [(2, .int s.2.2), (0, .ref (ax 0)), (1, .int p1), (3, .int s.2.1)]) C dL_write_34 rfl (by decide) rfl ?_
    refine g_iconst (v := (0 : Int32)) C dL_write_35 (by decide) ?_
    refine g_istore (lv2 := [(4, .int (0 : Int32)), (2, .int s.2.2), (0, .ref (ax 0)), (1, .int p1), (3, .int s.2.1)]) C dL_write_36 (by decide) rfl ?_
    refine g_sub (lv2 := [(0, .ref (ax 0)), (1, .int p1), (2, .int s.2.2), (3, .int s.2.1), (4, .int (0 : Int32))]) [2, 3, 1, 4, 0] rfl ?_
    exact h38 K4 hK4 N (s.1, s.2.2, s.2.1, (0 : Int32)) hf
  have h33 : ∀ (K4 : (Pd × Int32 × Int32) → Option (Int32 × Pd)), (∀ s : Pd × Int32 × Int32, K4 s = some o → G E X 6 [xo E ax (ap 0) ex1 (an 0) ex3 (ah 0) ex5 ex6, pd E ap s.1, sc E an Vn, hb E ah (ak0 0) (ak1 0) (ak2 0) (ak3 0) (ak4 0) (ak5 0) Vh, sc E ak0 Vk0, sc E ak1 Vk1, sc E ak2 Vk2, sc E ak3 Vk3, sc E ak4 Vk4, sc E ak5 Vk5] 0 0 [(0, .ref (ax 0)), (1, .int p1), (2, .int s.2.1), (3, .int s.2.2)] [] 4) → ∀ s : Pd × Int32, b_L_write_33 N Vp Vn Vh Vk0 Vk1 Vk2 Vk3 Vk4 Vk5 p1 K4 s = some o → G E X 6 [xo E ax (ap 0) ex1 (an 0) ex3 (ah 0) ex5 ex6, pd E ap s.1, sc E an Vn, hb E ah (ak0 0) (ak1 0) (ak2 0) (ak3 0) (ak4 0) (ak5 0) Vh, sc E ak0 Vk0, sc E ak1 Vk1, sc E ak2 Vk2, sc E ak3 Vk3, sc E ak4 Vk4, sc E ak5 Vk5] 0 0 [(0, .ref (ax 0)), (1, .int p1), (3, .int s.2)] [] 33 := by
    intro K4 hK4 s hf
    unfold b_L_write_33 at hf
    refine g_iconst (v := (0 : Int32)) C dL_write_33 (by decide) ?_
    exact h34 K4 hK4 (s.1, s.2, (0 : Int32)) hf
  have h29 : ∀ (K4 : (Pd × Int32 × Int32) → Option (Int32 × Pd)), (∀ s : Pd × Int32 × Int32, K4 s = some o → G E X 6 [xo E ax (ap 0) ex1 (an 0) ex3 (ah 0) ex5 ex6, pd E ap s.1, sc E an Vn, hb E ah (ak0 0) (ak1 0) (ak2 0) (ak3 0) (ak4 0) (ak5 0) Vh, sc E ak0 Vk0, sc E ak1 Vk1, sc E ak2 Vk2, sc E ak3 Vk3, sc E ak4 Vk4, sc E ak5 Vk5] 0 0 [(0, .ref (ax 0)), (1, .int p1), (2, .int s.2.1), (3, .int s.2.2)] [] 4) → ∀ s : Pd × Int32, b_L_write_29 N Vp Vn Vh Vk0 Vk1 Vk2 Vk3 Vk4 Vk5 p1 K4 s = some o → G E X 6 [xo E ax (ap 0) ex1 (an 0) ex3 (ah 0) ex5 ex6, pd E ap s.1, sc E an Vn, hb E ah (ak0 0) (ak1 0) (ak2 0) (ak3 0) (ak4 0) (ak5 0) Vh, sc E ak0 Vk0, sc E ak1 Vk1, sc E ak2 Vk2, sc E ak3 Vk3, sc E ak4 Vk4, sc E ak5 Vk5] 0 0 [(0, .ref (ax 0)), (1, .int p1), (3, .int s.2)] [] 29 := by
    intro K4 hK4 s hf
    unfold b_L_write_29 at hf
    refine g_iconst (v := (1 : Int32)) C dL_write_29 (by decide) ?_
    refine g_goto (tgt := 34) C dL_write_30 (by decide) ?_
    exact h34 K4 hK4 (s.1, s.2, (1 : Int32)) hf
  have h4 : ∀ (n : Nat) (s : Pd × Int32 × Int32), lp (b_L_write_4 N Vp Vn Vh Vk0 Vk1 Vk2 Vk3 Vk4 Vk5 p1) n s = some o → G E X 6 [xo E ax (ap 0) ex1 (an 0) ex3 (ah 0) ex5 ex6, pd E ap s.1, sc E an Vn, hb E ah (ak0 0) (ak1 0) (ak2 0) (ak3 0) (ak4 0) (ak5 0) Vh, sc E ak0 Vk0, sc E ak1 Vk1, sc E ak2 Vk2, sc E ak3 Vk3, sc E ak4 Vk4, sc E ak5 Vk5] 0 0 [(0, .ref (ax 0)), (1, .int p1), (2, .int s.2.1), (3, .int s.2.2)] [] 4 := by
    refine lp_ind ?_
    intro K4 hK4 s hf
    unfold b_L_write_4 at hf
    refine g_iload_n C dL_write_4 rfl 3 rfl ?_
    refine g_iload_n C dL_write_5 rfl 1 rfl ?_
    obtain ⟨o43, hq44, hf⟩ := bind_s hf
    refine g_callS (As := [.int p1]) (rest := [.int s.2.2]) C k_L_rows (fun l => c_L_rows (E := E) hq44 l) mt_533 [] rfl (by decide) rfl (Nat.le_of_ble_eq_true rfl) ⟨Nat.le_of_ble_eq_true rfl, Nat.le_of_ble_eq_true rfl, Nat.le_of_ble_eq_true rfl, Nat.le_of_ble_eq_true rfl⟩ dL_write_6 ?_
    rintro _ _ ⟨rfl, rfl⟩
    show G E X 6 [xo E ax (ap 0) ex1 (an 0) ex3 (ah 0) ex5 ex6, pd E ap s.1, sc E an Vn, hb E ah (ak0 0) (ak1 0) (ak2 0) (ak3 0) (ak4 0) (ak5 0) Vh, sc E ak0 Vk0, sc E ak1 Vk1, sc E ak2 Vk2, sc E ak3 Vk3, sc E ak4 Vk4, sc E ak5 Vk5] 0 0 [(0, .ref (ax 0)), (1, .int p1), (2, .int s.2.1), (3, .int s.2.2)] [.int o43, .int s.2.2] 9
    refine g_icmp_ge (tgt := 190) C dL_write_9 (by decide) (fun c45 => ?_) (fun c45 => ?_)
    · have hf := (f_if hf).1 c45
      refine g_iload_n C dL_write_190 rfl 2 rfl ?_
      obtain ⟨z46, hf⟩ := zb_s hf
      obtain rfl := Option.some.inj hf
      exact g_zret C K z46 dL_write_191 (Nat.le_of_ble_eq_true rfl) (Nat.le_of_ble_eq_true rfl) ⟨rfl, rfl⟩
    · have hf := (f_if hf).2 c45
      refine g_iload_n C dL_write_12 rfl 2 rfl ?_
      refine g_if_eq (tgt := 33) C dL_write_13 (by decide) (fun c47 => ?_) (fun c47 => ?_)
      · have hf := (f_if hf).1 c47
        refine g_sub (lv2 := [(0, .ref (ax 0)), (1, .int p1), (3, .int s.2.2)]) [0, 1, 3] rfl ?_
        exact h33 K4 hK4 (s.1, s.2.2) hf
      · have hf := (f_if hf).2 c47
        refine g_iload_n C dL_write_16 rfl 3 rfl ?_
        refine g_if_eq (tgt := 29) C dL_write_17 (by decide) (fun c48 => ?_) (fun c48 => ?_)
        · have hf := (f_if hf).1 c48
          refine g_sub (lv2 := [(0, .ref (ax 0)), (1, .int p1), (3, .int s.2.2)]) [0, 1, 3] rfl ?_
          exact h29 K4 hK4 (s.1, s.2.2) hf
        · have hf := (f_if hf).2 c48
          refine g_aload_n C dL_write_20 rfl 0 rfl ?_
          refine g_bipush (v := (124 : Int32)) C dL_write_21 (by decide) ?_
          obtain ⟨o49, hq50, hf⟩ := bind_s hf
          refine g_callS (As := [.ref (ax 0), .int (124 : Int32)]) (rest := []) C k_L_type (fun l => c_L_type (E := E) (ax := ax) (ex1 := ex1) (ex3 := ex3) (ex5 := ex5) (ex6 := ex6) (ap := ap) (Vp := s.1) (an := an) (Vn := Vn) (ah := ah) (Vh := Vh) (ak0 := ak0) (Vk0 := Vk0) (ak1 := ak1) (Vk1 := Vk1) (ak2 := ak2) (Vk2 := Vk2) (ak3 := ak3) (Vk3 := Vk3) (ak4 := ak4) (Vk4 := Vk4) (ak5 := ak5) (Vk5 := Vk5) hq50 l) mt_536 [0, 1, 2, 3, 4, 5, 6, 7, 8, 9] rfl (by decide) rfl (Nat.le_of_ble_eq_true rfl) ⟨Nat.le_of_ble_eq_true rfl, Nat.le_of_ble_eq_true rfl, Nat.le_of_ble_eq_true rfl, Nat.le_of_ble_eq_true rfl⟩ dL_write_23 ?_
          rintro _ _ ⟨rfl, rfl⟩
          show G E X 6 [xo E ax (ap 0) ex1 (an 0) ex3 (ah 0) ex5 ex6, pd E ap o49.2, sc E an Vn, hb E ah (ak0 0) (ak1 0) (ak2 0) (ak3 0) (ak4 0) (ak5 0) Vh, sc E ak0 Vk0, sc E ak1 Vk1, sc E ak2 Vk2, sc E ak3 Vk3, sc E ak4 Vk4, sc E ak5 Vk5] 0 0 [(0, .ref (ax 0)), (1, .int p1), (2, .int s.2.1), (3, .int s.2.2)] [.int o49.1] 26
          refine g_if_eq (tgt := 33) C dL_write_26 (by decide) (fun c51 => ?_) (fun c51 => ?_)
          · have hf := (f_if hf).1 c51
            refine g_sub (lv2 := [(0, .ref (ax 0)), (1, .int p1), (3, .int s.2.2)]) [0, 1, 3] rfl ?_
            exact h33 K4 hK4 (o49.2, s.2.2) hf
          · have hf := (f_if hf).2 c51
            refine g_sub (lv2 := [(0, .ref (ax 0)), (1, .int p1), (3, .int s.2.2)]) [0, 1, 3] rfl ?_
            exact h29 K4 hK4 (o49.2, s.2.2) hf
  unfold f_L_write at hf
  refine g_iconst (v := (1 : Int32)) C dL_write_0 (by decide) ?_
  refine g_istore_n (lv2 := [(2, .int (1 : Int32)), (0, .ref (ax 0)), (1, .int p1)]) C dL_write_1 rfl (by decide) rfl ?_
  refine g_iconst (v := (0 : Int32)) C dL_write_2 (by decide) ?_
  refine g_istore_n (lv2 := [(3, .int (0 : Int32)), (2, .int (1 : Int32)), (0, .ref (ax 0)), (1, .int p1)]) C dL_write_3 rfl (by decide) rfl ?_
  refine g_sub (lv2 := [(0, .ref (ax 0)), (1, .int p1), (2, .int (1 : Int32)), (3, .int (0 : Int32))]) [2, 3, 1, 0] rfl ?_
  exact h4 N (Vp, (1 : Int32), (0 : Int32)) hf
def b_L_people_149 (N : Nat) (Vp : Pd) (Vn : St) (Vh : Hb) (Vk0 : St) (Vk1 : St) (Vk2 : St) (Vk3 : St) (Vk4 : St) (Vk5 : St) (s : Int32) : Option (Int32) := (zb s (some s))
def b_L_people_148 (N : Nat) (Vp : Pd) (Vn : St) (Vh : Hb) (Vk0 : St) (Vk1 : St) (Vk2 : St) (Vk3 : St) (Vk4 : St) (Vk5 : St) (s : Unit) : Option (Int32) := b_L_people_149 N Vp Vn Vh Vk0 Vk1 Vk2 Vk3 Vk4 Vk5 (0 : Int32)
def b_L_people_144 (N : Nat) (Vp : Pd) (Vn : St) (Vh : Hb) (Vk0 : St) (Vk1 : St) (Vk2 : St) (Vk3 : St) (Vk4 : St) (Vk5 : St) (s : Unit) : Option (Int32) := b_L_people_149 N Vp Vn Vh Vk0 Vk1 Vk2 Vk3 Vk4 Vk5 (1 : Int32)
def b_L_people_71 (N : Nat) (Vp : Pd) (Vn : St) (Vh : Hb) (Vk0 : St) (Vk1 : St) (Vk2 : St) (Vk3 : St) (Vk4 : St) (Vk5 : St) (s : Unit) : Option (Int32) := some (0 : Int32)
def b_L_people_12 (N : Nat) (Vp : Pd) (Vn : St) (Vh : Hb) (Vk0 : St) (Vk1 : St) (Vk2 : St) (Vk3 : St) (Vk4 : St) (Vk5 : St) (K12 : (Int32 × Int32 × Int32 × Int32) → Option (Int32)) (s : Int32 × Int32 × Int32 × Int32) : Option (Int32) := ((f_X5_count N Vp Vn Vh Vk0 Vk1 Vk2 Vk3 Vk4 Vk5 (1 : Int32)).bind fun o2 => (if o2 ≤ s.2.2.2 then ((f_X5_count N Vp Vn Vh Vk0 Vk1 Vk2 Vk3 Vk4 Vk5 (2 : Int32)).bind fun o5 => (if o5 = s.1 then ((f_X5_count N Vp Vn Vh Vk0 Vk1 Vk2 Vk3 Vk4 Vk5 (1 : Int32)).bind fun o8 => ((f_X5_of Vn o8 (0 : Int32)).bind fun o10 => (if o10 = (-1 : Int32) then ((f_X5_count N Vp Vn Vh Vk0 Vk1 Vk2 Vk3 Vk4 Vk5 (1 : Int32)).bind fun o13 => (if o13 = 0 then b_L_people_144 N Vp Vn Vh Vk0 Vk1 Vk2 Vk3 Vk4 Vk5 () else ((f_X5_count N Vp Vn Vh Vk0 Vk1 Vk2 Vk3 Vk4 Vk5 (8 : Int32)).bind fun o16 => (if o16 = 0 then b_L_people_144 N Vp Vn Vh Vk0 Vk1 Vk2 Vk3 Vk4 Vk5 () else (if s.2.1 = 0 then b_L_people_144 N Vp Vn Vh Vk0 Vk1 Vk2 Vk3 Vk4 Vk5 () else b_L_people_148 N Vp Vn Vh Vk0 Vk1 Vk2 Vk3 Vk4 Vk5 ()))))) else b_L_people_148 N Vp Vn Vh Vk0 Vk1 Vk2 Vk3 Vk4 Vk5 ()))) else b_L_people_148 N Vp Vn Vh Vk0 Vk1 Vk2 Vk3 Vk4 Vk5 ())) else ((f_X5_of Vn s.2.2.2 (0 : Int32)).bind fun o20 => (if o20 < 0 then b_L_people_71 N Vp Vn Vh Vk0 Vk1 Vk2 Vk3 Vk4 Vk5 () else (if s.2.1 < o20 then b_L_people_71 N Vp Vn Vh Vk0 Vk1 Vk2 Vk3 Vk4 Vk5 () else (if (999 : Int32) < o20 then b_L_people_71 N Vp Vn Vh Vk0 Vk1 Vk2 Vk3 Vk4 Vk5 () else ((f_X5_of Vn s.2.2.2 (2 : Int32)).bind fun o25 => (if s.2.2.1 < o25 then b_L_people_71 N Vp Vn Vh Vk0 Vk1 Vk2 Vk3 Vk4 Vk5 () else ((f_X5_of Vn s.2.2.2 (2 : Int32)).bind fun o28 => (if 0 ≤ o28 then ((f_X5_of Vn s.2.2.2 (2 : Int32)).bind fun o31 => ((f_X5_of Vn s.2.2.2 (1 : Int32)).bind fun o33 => K12 ((s.1 + o33), o20, o31, (s.2.2.2 + (1 : Int32))))) else b_L_people_71 N Vp Vn Vh Vk0 Vk1 Vk2 Vk3 Vk4 Vk5 ()))))))))))
def f_L_people (N : Nat) (Vp : Pd) (Vn : St) (Vh : Hb) (Vk0 : St) (Vk1 : St) (Vk2 : St) (Vk3 : St) (Vk4 : St) (Vk5 : St) : Option (Int32) := lp (b_L_people_12 N Vp Vn Vh Vk0 Vk1 Vk2 Vk3 Vk4 Vk5) N ((0 : Int32), (1000 : Int32), (100000 : Int32), (0 : Int32))
abbrev rm_L_people : Room := { frames := 3, cells := 0, slots := 0, locals := 64 }
set_option maxRecDepth 100000 in
theorem k_L_people : CFs yL_people cL_people 6 (some .boolean) 1 := ⟨mt_598, mt_0, mt_599, ⟨by decide +kernel, by decide +kernel, by decide +kernel⟩⟩
set_option maxHeartbeats 4000000 in
set_option maxRecDepth 100000 in
theorem c_L_people {E : Ev} {ex1 : Nat} {ex3 : Nat} {ex5 : Nat} {ex6 : Nat} {ax : Nat → Nat} {ap : Nat → Nat} {Vp : Pd} {an : Nat → Nat} {Vn : St} {ah : Nat → Nat} {Vh : Hb} {ak0 : Nat → Nat} {Vk0 : St} {ak1 : Nat → Nat} {Vk1 : St} {ak2 : Nat → Nat} {Vk2 : St} {ak3 : Nat → Nat} {Vk3 : St} {ak4 : Nat → Nat} {Vk4 : St} {ak5 : Nat → Nat} {Vk5 : St} {N : Nat} {o : Int32} (hf : f_L_people N Vp Vn Vh Vk0 Vk1 Vk2 Vk3 Vk4 Vk5 = some o) : ∀ l, MG l yL_people cL_people 6 (some .boolean) rm_L_people E [.ref (ax 0)] [xo E ax (ap 0) ex1 (an 0) ex3 (ah 0) ex5 ex6, pd E ap Vp, sc E an Vn, hb E ah (ak0 0) (ak1 0) (ak2 0) (ak3 0) (ak4 0) (ak5 0) Vh, sc E ak0 Vk0, sc E ak1 Vk1, sc E ak2 Vk2, sc E ak3 Vk3, sc E ak4 Vk4, sc E ak5 Vk5] (fun v Y => v = some (.int o) ∧ Y = [xo E ax (ap 0) ex1 (an 0) ex3 (ah 0) ex5 ex6, pd E ap Vp, sc E an Vn, hb E ah (ak0 0) (ak1 0) (ak2 0) (ak3 0) (ak4 0) (ak5 0) Vh, sc E ak0 Vk0, sc E ak1 Vk1, sc E ak2 Vk2, sc E ak3 Vk3, sc E ak4 Vk4, sc E ak5 Vk5]) := by
  refine MG.mk (own := RL) (lv0 := [(0, .ref (ax 0))]) (by decide) rfl (Nat.le_of_ble_eq_true rfl) rfl (fun X C K I => ?_)
  have h149 : ∀ s : Int32, b_L_people_149 N Vp Vn Vh Vk0 Vk1 Vk2 Vk3 Vk4 Vk5 s = some o → G E X 6 [xo E ax (ap 0) ex1 (an 0) ex3 (ah 0) ex5 ex6, pd E ap Vp, sc E an Vn, hb E ah (ak0 0) (ak1 0) (ak2 0) (ak3 0) (ak4 0) (ak5 0) Vh, sc E ak0 Vk0, sc E ak1 Vk1, sc E ak2 Vk2, sc E ak3 Vk3, sc E ak4 Vk4, sc E ak5 Vk5] 0 0 [] [.int s] 149 := by
    intro s hf
    unfold b_L_people_149 at hf
    obtain ⟨z1, hf⟩ := zb_s hf
    obtain rfl := Option.some.inj hf
    exact g_zret C K z1 dL_people_149 (Nat.le_of_ble_eq_true rfl) (Nat.le_of_ble_eq_true rfl) ⟨rfl, rfl⟩
  have h148 : ∀ s : Unit, b_L_people_148 N Vp Vn Vh Vk0 Vk1 Vk2 Vk3 Vk4 Vk5 s = some o → G E X 6 [xo E ax (ap 0) ex1 (an 0) ex3 (ah 0) ex5 ex6, pd E ap Vp, sc E an Vn, hb E ah (ak0 0) (ak1 0) (ak2 0) (ak3 0) (ak4 0) (ak5 0) Vh, sc E ak0 Vk0, sc E ak1 Vk1, sc E ak2 Vk2, sc E ak3 Vk3, sc E ak4 Vk4, sc E ak5 Vk5] 0 0 [] [] 148 := by
    intro s hf
    unfold b_L_people_148 at hf
    refine g_iconst (v := (0 : Int32)) C dL_people_148 (by decide) ?_
    exact h149 (0 : Int32) hf
  have h144 : ∀ s : Unit, b_L_people_144 N Vp Vn Vh Vk0 Vk1 Vk2 Vk3 Vk4 Vk5 s = some o → G E X 6 [xo E ax (ap 0) ex1 (an 0) ex3 (ah 0) ex5 ex6, pd E ap Vp, sc E an Vn, hb E ah (ak0 0) (ak1 0) (ak2 0) (ak3 0) (ak4 0) (ak5 0) Vh, sc E ak0 Vk0, sc E ak1 Vk1, sc E ak2 Vk2, sc E ak3 Vk3, sc E ak4 Vk4, sc E ak5 Vk5] 0 0 [] [] 144 := by
    intro s hf
    unfold b_L_people_144 at hf
    refine g_iconst (v := (1 : Int32)) C dL_people_144 (by decide) ?_
    refine g_goto (tgt := 149) C dL_people_145 (by decide) ?_
    exact h149 (1 : Int32) hf
  have h71 : ∀ s : Unit, b_L_people_71 N Vp Vn Vh Vk0 Vk1 Vk2 Vk3 Vk4 Vk5 s = some o → G E X 6 [xo E ax (ap 0) ex1 (an 0) ex3 (ah 0) ex5 ex6, pd E ap Vp, sc E an Vn, hb E ah (ak0 0) (ak1 0) (ak2 0) (ak3 0) (ak4 0) (ak5 0) Vh, sc E ak0 Vk0, sc E ak1 Vk1, sc E ak2 Vk2, sc E ak3 Vk3, sc E ak4 Vk4, sc E ak5 Vk5] 0 0 [] [] 71 := by
    intro s hf
    unfold b_L_people_71 at hf
    refine g_iconst (v := (0 : Int32)) C dL_people_71 (by decide) ?_
    obtain rfl := Option.some.inj hf
    exact g_zret C K (by decide) dL_people_72 (Nat.le_of_ble_eq_true rfl) (Nat.le_of_ble_eq_true rfl) ⟨rfl, rfl⟩
  have h12 : ∀ (n : Nat) (s : Int32 × Int32 × Int32 × Int32), lp (b_L_people_12 N Vp Vn Vh Vk0 Vk1 Vk2 Vk3 Vk4 Vk5) n s = some o → G E X 6 [xo E ax (ap 0) ex1 (an 0) ex3 (ah 0) ex5 ex6, pd E ap Vp, sc E an Vn, hb E ah (ak0 0) (ak1 0) (ak2 0) (ak3 0) (ak4 0) (ak5 0) Vh, sc E ak0 Vk0, sc E ak1 Vk1, sc E ak2 Vk2, sc E ak3 Vk3, sc E ak4 Vk4, sc E ak5 Vk5] 0 0 [(0, .ref (ax 0)), (1, .int s.1), (2, .int s.2.1), (3, .int s.2.2.1), (4, .int s.2.2.2)] [] 12 := by
    refine lp_ind ?_
    intro K12 hK12 s hf
    unfold b_L_people_12 at hf
    refine g_iload C dL_people_12 4 rfl ?_
    refine g_aload_n C dL_people_14 rfl 0 rfl ?_
    refine g_iconst (v := (1 : Int32)) C dL_people_15 (by decide) ?_
    obtain ⟨o2, hq3, hf⟩ := bind_s hf
    refine g_callV (As := [.int (1 : Int32)]) (rest := [.int s.2.2.2]) C k_X5_count (fun l => c_X5_count (E := E) (ax := ax) (ex1 := ex1) (ex3 := ex3) (ex5 := ex5) (ex6 := ex6) (ap := ap) (Vp := Vp) (an := an) (Vn := Vn) (ah := ah) (Vh := Vh) (ak0 := ak0) (Vk0 := Vk0) (ak1 := ak1) (Vk1 := Vk1) (ak2 := ak2) (Vk2 := Vk2) (ak3 := ak3) (Vk3 := Vk3) (ak4 := ak4) (Vk4 := Vk4) (ak5 := ak5) (Vk5 := Vk5) hq3 l) mt_460 [0, 1, 2, 3, 4, 5, 6, 7, 8, 9] rfl (by decide) ⟨_, _, _, _, List.mem_flatten.mpr ⟨_, List.mem_of_getElem? (i := 0) rfl, List.mem_of_getElem? (i := 0) rfl⟩, rfl⟩ rfl (Nat.le_of_ble_eq_true rfl) ⟨Nat.le_of_ble_eq_true rfl, Nat.le_of_ble_eq_true rfl, Nat.le_of_ble_eq_true rfl, Nat.le_of_ble_eq_true rfl⟩ dL_people_16 ?_
    rintro _ _ ⟨rfl, rfl⟩
    show G E X 6 [xo E ax (ap 0) ex1 (an 0) ex3 (ah 0) ex5 ex6, pd E ap Vp, sc E an Vn, hb E ah (ak0 0) (ak1 0) (ak2 0) (ak3 0) (ak4 0) (ak5 0) Vh, sc E ak0 Vk0, sc E ak1 Vk1, sc E ak2 Vk2, sc E ak3 Vk3, sc E ak4 Vk4, sc E ak5 Vk5] 0 0 [(0, .ref (ax 0)), (1, .int s.1), (2, .int s.2.1), (3, .int s.2.2.1), (4, .int s.2.2.2)] [.int o2, .int s.2.2.2] 19
    refine g_icmp_ge (tgt := 100) C dL_people_19 (by decide) (fun c4 => ?_) (fun c4 => ?_)
    · have hf := (f_if hf).1 c4
      refine g_aload_n C dL_people_100 rfl 0 rfl ?_
      refine g_iconst (v := (2 : Int32)) C dL_people_101 (by decide) ?_
      obtain ⟨o5, hq6, hf⟩ := bind_s hf
      refine g_callV (As := [.int (2 : Int32)]) (rest := []) C k_X5_count (fun l => c_X5_count (E := E) (ax := ax) (ex1 := ex1) (ex3 := ex3) (ex5 := ex5) (ex6 := ex6) (ap := ap) (Vp := Vp) (an := an) (Vn := Vn) (ah := ah) (Vh := Vh) (ak0 := ak0) (Vk0 := Vk0) (ak1 := ak1) (Vk1 := Vk1) (ak2 := ak2) (Vk2 := Vk2) (ak3 := ak3) (Vk3 := Vk3) (ak4 := ak4) (Vk4 := Vk4) (ak5 := ak5) (Vk5 := Vk5) hq6 l) mt_460 [0, 1, 2, 3, 4, 5, 6, 7, 8, 9] rfl (by decide) ⟨_, _, _, _, List.mem_flatten.mpr ⟨_, List.mem_of_getElem? (i := 0) rfl, List.mem_of_getElem? (i := 0) rfl⟩, rfl⟩ rfl (Nat.le_of_ble_eq_true rfl) ⟨Nat.le_of_ble_eq_true rfl, Nat.le_of_ble_eq_true rfl, Nat.le_of_ble_eq_true rfl, Nat.le_of_ble_eq_true rfl⟩ dL_people_102 ?_
      rintro _ _ ⟨rfl, rfl⟩
      show G E X 6 [xo E ax (ap 0) ex1 (an 0) ex3 (ah 0) ex5 ex6, pd E ap Vp, sc E an Vn, hb E ah (ak0 0) (ak1 0) (ak2 0) (ak3 0) (ak4 0) (ak5 0) Vh, sc E ak0 Vk0, sc E ak1 Vk1, sc E ak2 Vk2, sc E ak3 Vk3, sc E ak4 Vk4, sc E ak5 Vk5] 0 0 [(0, .ref (ax 0)), (1, .int s.1), (2, .int s.2.1), (3, .int s.2.2.1), (4, .int s.2.2.2)] [.int o5] 105
      refine g_iload_n C dL_people_105 rfl 1 rfl ?_
      refine g_icmp_ne (tgt := 148) C dL_people_106 (by decide) (fun c7 => ?_) (fun c7 => ?_)
      · have hf := (f_if hf).2 c7
        refine g_sub (lv2 := []) [] rfl ?_
        exact h148 () hf
      · have hf := (f_if hf).1 c7
        refine g_aload_n C dL_people_109 rfl 0 rfl ?_
        refine g_aload_n C dL_people_110 rfl 0 rfl ?_
        refine g_iconst (v := (1 : Int32)) C dL_people_111 (by decide) ?_
        obtain ⟨o8, hq9, hf⟩ := bind_s hf
        refine g_callV (As := [.int (1 : Int32)]) (rest := [.ref (ax 0)]) C k_X5_count (fun l => c_X5_count (E := E) (ax := ax) (ex1 := ex1) (ex3 := ex3) (ex5 := ex5) (ex6 := ex6) (ap := ap) (Vp := Vp) (an := an) (Vn := Vn) (ah := ah) (Vh := Vh) (ak0 := ak0) (Vk0 := Vk0) (ak1 := ak1) (Vk1 := Vk1) (ak2 := ak2) (Vk2 := Vk2) (ak3 := ak3) (Vk3 := Vk3) (ak4 := ak4) (Vk4 := Vk4) (ak5 := ak5) (Vk5 := Vk5) hq9 l) mt_460 [0, 1, 2, 3, 4, 5, 6, 7, 8, 9] rfl (by decide) ⟨_, _, _, _, List.mem_flatten.mpr ⟨_, List.mem_of_getElem? (i := 0) rfl, List.mem_of_getElem? (i := 0) rfl⟩, rfl⟩ rfl (Nat.le_of_ble_eq_true rfl) ⟨Nat.le_of_ble_eq_true rfl, Nat.le_of_ble_eq_true rfl, Nat.le_of_ble_eq_true rfl, Nat.le_of_ble_eq_true rfl⟩ dL_people_112 ?_
        rintro _ _ ⟨rfl, rfl⟩
        show G E X 6 [xo E ax (ap 0) ex1 (an 0) ex3 (ah 0) ex5 ex6, pd E ap Vp, sc E an Vn, hb E ah (ak0 0) (ak1 0) (ak2 0) (ak3 0) (ak4 0) (ak5 0) Vh, sc E ak0 Vk0, sc E ak1 Vk1, sc E ak2 Vk2, sc E ak3 Vk3, sc E ak4 Vk4, sc E ak5 Vk5] 0 0 [(0, .ref (ax 0)), (1, .int s.1), (2, .int s.2.1), (3, .int s.2.2.1), (4, .int s.2.2.2)] [.int o8, .ref (ax 0)] 115
        refine g_iconst (v := (0 : Int32)) C dL_people_115 (by decide) ?_
        obtain ⟨o10, hq11, hf⟩ := bind_s hf
        refine g_callV (As := [.int o8, .int (0 : Int32)]) (rest := []) C k_X5_of (fun l => c_X5_of (E := E) (ax := ax) (ex0 := (ap 0)) (ex1 := ex1) (ex3 := ex3) (ex4 := (ah 0)) (ex5 := ex5) (ex6 := ex6) (an := an) (Vn := Vn) hq11 l) mt_429 [0, 2] rfl (by decide) ⟨_, _, _, _, List.mem_flatten.mpr ⟨_, List.mem_of_getElem? (i := 0) rfl, List.mem_of_getElem? (i := 0) rfl⟩, rfl⟩ rfl (Nat.le_of_ble_eq_true rfl) ⟨Nat.le_of_ble_eq_true rfl, Nat.le_of_ble_eq_true rfl, Nat.le_of_ble_eq_true rfl, Nat.le_of_ble_eq_true rfl⟩ dL_people_116 ?_
        rintro _ _ ⟨rfl, rfl⟩
        show G E X 6 [xo E ax (ap 0) ex1 (an 0) ex3 (ah 0) ex5 ex6, pd E ap Vp, sc E an Vn, hb E ah (ak0 0) (ak1 0) (ak2 0) (ak3 0) (ak4 0) (ak5 0) Vh, sc E ak0 Vk0, sc E ak1 Vk1, sc E ak2 Vk2, sc E ak3 Vk3, sc E ak4 Vk4, sc E ak5 Vk5] 0 0 [(0, .ref (ax 0)), (1, .int s.1), (2, .int s.2.1), (3, .int s.2.2.1), (4, .int s.2.2.2)] [.int o10] 119
        refine g_iconst (v := (-1 : Int32)) C dL_people_119 ofI_m1 ?_
        refine g_icmp_ne (tgt := 148) C dL_people_120 (by decide) (fun c12 => ?_) (fun c12 => ?_)
        · have hf := (f_if hf).2 c12
          refine g_sub (lv2 := []) [] rfl ?_
          exact h148 () hf
        · have hf := (f_if hf).1 c12
          refine g_aload_n C dL_people_123 rfl 0 rfl ?_
          refine g_iconst (v := (1 : Int32)) C dL_people_124 (by decide) ?_
          obtain ⟨o13, hq14, hf⟩ := bind_s hf
          refine g_callV (As := [.int (1 : Int32)]) (rest := []) C k_X5_count (fun l => c_X5_count (E := E) (ax := ax) (ex1 := ex1) (ex3 := ex3) (ex5 := ex5) (ex6 := ex6) (ap := ap) (Vp := Vp) (an := an) (Vn := Vn) (ah := ah) (Vh := Vh) (ak0 := ak0) (Vk0 := Vk0) (ak1 := ak1) (Vk1 := Vk1) (ak2 := ak2) (Vk2 := Vk2) (ak3 := ak3) (Vk3 := Vk3) (ak4 := ak4) (Vk4 := Vk4) (ak5 := ak5) (Vk5 := Vk5) hq14 l) mt_460 [0, 1, 2, 3, 4, 5, 6, 7, 8, 9] rfl (by decide) ⟨_, _, _, _, List.mem_flatten.mpr ⟨_, List.mem_of_getElem? (i := 0) rfl, List.mem_of_getElem? (i := 0) rfl⟩, rfl⟩ rfl (Nat.le_of_ble_eq_true rfl) ⟨Nat.le_of_ble_eq_true rfl, Nat.le_of_ble_eq_true rfl, Nat.le_of_ble_eq_true rfl, Nat.le_of_ble_eq_true rfl⟩ dL_people_125 ?_
          rintro _ _ ⟨rfl, rfl⟩
          show G E X 6 [xo E ax (ap 0) ex1 (an 0) ex3 (ah 0) ex5 ex6, pd E ap Vp, sc E an Vn, hb E ah (ak0 0) (ak1 0) (ak2 0) (ak3 0) (ak4 0) (ak5 0) Vh, sc E ak0 Vk0, sc E ak1 Vk1, sc E ak2 Vk2, sc E ak3 Vk3, sc E ak4 Vk4, sc E ak5 Vk5] 0 0 [(0, .ref (ax 0)), (1, .int s.1), (2, .int s.2.1), (3, .int s.2.2.1), (4, .int s.2.2.2)] [.int o13] 128
          refine g_if_eq (tgt := 144) C dL_people_128 (by decide) (fun c15 => ?_) (fun c15 => ?_)
          · have hf := (f_if hf).1 c15
            refine g_sub (lv2 := []) [] rfl ?_
            exact h144 () hf
          · have hf := (f_if hf).2 c15
            refine g_aload_n C dL_people_131 rfl 0 rfl ?_
            refine g_bipush (v := (8 : Int32)) C dL_people_132 (by decide) ?_
            obtain ⟨o16, hq17, hf⟩ := bind_s hf
            refine g_callV (As := [.int (8 : Int32)]) (rest := []) C k_X5_count (fun l => c_X5_count (E := E) (ax := ax) (ex1 := ex1) (ex3 := ex3) (ex5 := ex5) (ex6 := ex6) (ap := ap) (Vp := Vp) (an := an) (Vn := Vn) (ah := ah) (Vh := Vh) (ak0 := ak0) (Vk0 := Vk0) (ak1 := ak1) (Vk1 := Vk1) (ak2 := ak2) (Vk2 := Vk2) (ak3 := ak3) (Vk3 := Vk3) (ak4 := ak4) (Vk4 := Vk4) (ak5 := ak5) (Vk5 := Vk5) hq17 l) mt_460 [0, 1, 2, 3, 4, 5, 6, 7, 8, 9] rfl (by decide) ⟨_, _, _, _, List.mem_flatten.mpr ⟨_, List.mem_of_getElem? (i := 0) rfl, List.mem_of_getElem? (i := 0) rfl⟩, rfl⟩ rfl (Nat.le_of_ble_eq_true rfl) ⟨Nat.le_of_ble_eq_true rfl, Nat.le_of_ble_eq_true rfl, Nat.le_of_ble_eq_true rfl, Nat.le_of_ble_eq_true rfl⟩ dL_people_134 ?_
            rintro _ _ ⟨rfl, rfl⟩
            show G E X 6 [xo E ax (ap 0) ex1 (an 0) ex3 (ah 0) ex5 ex6, pd E ap Vp, sc E an Vn, hb E ah (ak0 0) (ak1 0) (ak2 0) (ak3 0) (ak4 0) (ak5 0) Vh, sc E ak0 Vk0, sc E ak1 Vk1, sc E ak2 Vk2, sc E ak3 Vk3, sc E ak4 Vk4, sc E ak5 Vk5] 0 0 [(0, .ref (ax 0)), (1, .int s.1), (2, .int s.2.1), (3, .int s.2.2.1), (4, .int s.2.2.2)] [.int o16] 137
            refine g_if_eq (tgt := 144) C dL_people_137 (by decide) (fun c18 => ?_) (fun c18 => ?_)
            · have hf := (f_if hf).1 c18
              refine g_sub (lv2 := []) [] rfl ?_
              exact h144 () hf
            · have hf := (f_if hf).2 c18
              refine g_iload_n C dL_people_140 rfl 2 rfl ?_
              refine g_if_ne (tgt := 148) C dL_people_141 (by decide) (fun c19 => ?_) (fun c19 => ?_)
              · have hf := (f_if hf).2 c19
                refine g_sub (lv2 := []) [] rfl ?_
                exact h148 () hf
              · have hf := (f_if hf).1 c19
                refine g_sub (lv2 := []) [] rfl ?_
                exact h144 () hf
    · have hf := (f_if hf).2 c4
      refine g_aload_n C dL_people_22 rfl 0 rfl ?_
      refine g_iload C dL_people_23 4 rfl ?_
      refine g_iconst (v := (0 : Int32)) C dL_people_25 (by decide) ?_
      obtain ⟨o20, hq21, hf⟩ := bind_s hf
      refine g_callV (As := [.int s.2.2.2, .int (0 : Int32)]) (rest := []) C k_X5_of (fun l => c_X5_of (E := E) (ax := ax) (ex0 := (ap 0)) (ex1 := ex1) (ex3 := ex3) (ex4 := (ah 0)) (ex5 := ex5) (ex6 := ex6) (an := an) (Vn := Vn) hq21 l) mt_429 [0, 2] rfl (by decide) ⟨_, _, _, _, List.mem_flatten.mpr ⟨_, List.mem_of_getElem? (i := 0) rfl, List.mem_of_getElem? (i := 0) rfl⟩, rfl⟩ rfl (Nat.le_of_ble_eq_true rfl) ⟨Nat.le_of_ble_eq_true rfl, Nat.le_of_ble_eq_true rfl, Nat.le_of_ble_eq_true rfl, Nat.le_of_ble_eq_true rfl⟩ dL_people_26 ?_
      rintro _ _ ⟨rfl, rfl⟩
      show G E X 6 [xo E ax (ap 0) ex1 (an 0) ex3 (ah 0) ex5 ex6, pd E ap Vp, sc E an Vn, hb E ah (ak0 0) (ak1 0) (ak2 0) (ak3 0) (ak4 0) (ak5 0) Vh, sc E ak0 Vk0, sc E ak1 Vk1, sc E ak2 Vk2, sc E ak3 Vk3, sc E ak4 Vk4, sc E ak5 Vk5] 0 0 [(0, .ref (ax 0)), (1, .int s.1), (2, .int s.2.1), (3, .int s.2.2.1), (4, .int s.2.2.2)] [.int o20] 29
      refine g_istore (lv2 := [(5, .int o20), (0, .ref (ax 0)), (1, .int s.1), (2, .int s.2.1), (3, .int s.2.2.1), (4, .int s.2.2.2)]) C dL_people_29 (by decide) rfl ?_
      refine g_iload C dL_people_31 0 rfl ?_
      refine g_if_lt (tgt := 71) C dL_people_33 (by decide) (fun c22 => ?_) (fun c22 => ?_)
      · have hf := (f_if hf).1 c22
        refine g_sub (lv2 := []) [] rfl ?_
        exact h71 () hf
      · have hf := (f_if hf).2 c22
        refine g_iload C dL_people_36 0 rfl ?_
        refine g_iload_n C dL_people_38 rfl 3 rfl ?_
        refine g_icmp_gt (tgt := 71) C dL_people_39 (by decide) (fun c23 => ?_) (fun c23 => ?_)
        · have hf := (f_if hf).1 c23
          refine g_sub (lv2 := []) [] rfl ?_
          exact h71 () hf
        · have hf := (f_if hf).2 c23
          refine g_iload C dL_people_42 0 rfl ?_
          refine g_sipush (v := (999 : Int32)) C dL_people_44 (by decide) ?_
          refine g_icmp_gt (tgt := 71) C dL_people_47 (by decide) (fun c24 => ?_) (fun c24 => ?_)
          · have hf := (f_if hf).1 c24
            refine g_sub (lv2 := []) [] rfl ?_
            exact h71 () hf
          · have hf := (f_if hf).2 c24
            refine g_aload_n C dL_people_50 rfl 1 rfl ?_
            refine g_iload C dL_people_51 5 rfl ?_
            refine g_iconst (v := (2 : Int32)) C dL_people_53 (by decide) ?_
            obtain ⟨o25, hq26, hf⟩ := bind_s hf
            refine g_callV (As := [.int s.2.2.2, .int (2 : Int32)]) (rest := []) C k_X5_of (fun l => c_X5_of (E := E) (ax := ax) (ex0 := (ap 0)) (ex1 := ex1) (ex3 := ex3) (ex4 := (ah 0)) (ex5 := ex5) (ex6 := ex6) (an := an) (Vn := Vn) hq26 l) mt_429 [0, 2] rfl (by decide) ⟨_, _, _, _, List.mem_flatten.mpr ⟨_, List.mem_of_getElem? (i := 0) rfl, List.mem_of_getElem? (i := 0) rfl⟩, rfl⟩ rfl (Nat.le_of_ble_eq_true rfl) ⟨Nat.le_of_ble_eq_true rfl, Nat.le_of_ble_eq_true rfl, Nat.le_of_ble_eq_true rfl, Nat.le_of_ble_eq_true rfl⟩ dL_people_54 ?_
            rintro _ _ ⟨rfl, rfl⟩
            show G E X 6 [xo E ax (ap 0) ex1 (an 0) ex3 (ah 0) ex5 ex6, pd E ap Vp, sc E an Vn, hb E ah (ak0 0) (ak1 0) (ak2 0) (ak3 0) (ak4 0) (ak5 0) Vh, sc E ak0 Vk0, sc E ak1 Vk1, sc E ak2 Vk2, sc E ak3 Vk3, sc E ak4 Vk4, sc E ak5 Vk5] 0 0 [(5, .int o20), (0, .ref (ax 0)), (1, .int s.1), (2, .int s.2.1), (3, .int s.2.2.1), (4, .int s.2.2.2)] [.int o25] 57
            refine g_iload_n C dL_people_57 rfl 4 rfl ?_
            refine g_icmp_gt (tgt := 71) C dL_people_58 (by decide) (fun c27 => ?_) (fun c27 => ?_)
            · have hf := (f_if hf).1 c27
              refine g_sub (lv2 := []) [] rfl ?_
              exact h71 () hf
            · have hf := (f_if hf).2 c27
              refine g_aload_n C dL_people_61 rfl 1 rfl ?_
              refine g_iload C dL_people_62 5 rfl ?_
              refine g_iconst (v := (2 : Int32)) C dL_people_64 (by decide) ?_
              obtain ⟨o28, hq29, hf⟩ := bind_s hf
              refine g_callV (As := [.int s.2.2.2, .int (2 : Int32)]) (rest := []) C k_X5_of (fun l => c_X5_of (E := E) (ax := ax) (ex0 := (ap 0)) (ex1 := ex1) (ex3 := ex3) (ex4 := (ah 0)) (ex5 := ex5) (ex6 := ex6) (an := an) (Vn := Vn) hq29 l) mt_429 [0, 2] rfl (by decide) ⟨_, _, _, _, List.mem_flatten.mpr ⟨_, List.mem_of_getElem? (i := 0) rfl, List.mem_of_getElem? (i := 0) rfl⟩, rfl⟩ rfl (Nat.le_of_ble_eq_true rfl) ⟨Nat.le_of_ble_eq_true rfl, Nat.le_of_ble_eq_true rfl, Nat.le_of_ble_eq_true rfl, Nat.le_of_ble_eq_true rfl⟩ dL_people_65 ?_
              rintro _ _ ⟨rfl, rfl⟩
              show G E X 6 [xo E ax (ap 0) ex1 (an 0) ex3 (ah 0) ex5 ex6, pd E ap Vp, sc E an Vn, hb E ah (ak0 0) (ak1 0) (ak2 0) (ak3 0) (ak4 0) (ak5 0) Vh, sc E ak0 Vk0, sc E ak1 Vk1, sc E ak2 Vk2, sc E ak3 Vk3, sc E ak4 Vk4, sc E ak5 Vk5] 0 0 [(5, .int o20), (0, .ref (ax 0)), (1, .int s.1), (2, .int s.2.1), (3, .int s.2.2.1), (4, .int s.2.2.2)] [.int o28] 68
              refine g_if_ge (tgt := 73) C dL_people_68 (by decide) (fun c30 => ?_) (fun c30 => ?_)
              · have hf := (f_if hf).1 c30
                refine g_iload C dL_people_73 0 rfl ?_
                refine g_istore_n (lv2 := [(2, .int o20), (5, .int o20), (0, .ref (ax 0)), (1, .int s.1), (3, .int s.2.2.1), (4, .int s.2.2.2)]) C dL_people_75 rfl (by decide) rfl ?_
                refine g_aload_n C dL_people_76 rfl 2 rfl ?_
                refine g_iload C dL_people_77 5 rfl ?_
                refine g_iconst (v := (2 : Int32)) C dL_people_79 (by decide) ?_
                obtain ⟨o31, hq32, hf⟩ := bind_s hf
                refine g_callV (As := [.int s.2.2.2, .int (2 : Int32)]) (rest := []) C k_X5_of (fun l => c_X5_of (E := E) (ax := ax) (ex0 := (ap 0)) (ex1 := ex1) (ex3 := ex3) (ex4 := (ah 0)) (ex5 := ex5) (ex6 := ex6) (an := an) (Vn := Vn) hq32 l) mt_429 [0, 2] rfl (by decide) ⟨_, _, _, _, List.mem_flatten.mpr ⟨_, List.mem_of_getElem? (i := 0) rfl, List.mem_of_getElem? (i := 0) rfl⟩, rfl⟩ rfl (Nat.le_of_ble_eq_true rfl) ⟨Nat.le_of_ble_eq_true rfl, Nat.le_of_ble_eq_true rfl, Nat.le_of_ble_eq_true rfl, Nat.le_of_ble_eq_true rfl⟩ dL_people_80 ?_
                rintro _ _ ⟨rfl, rfl⟩
                show G E X 6 [xo E ax (ap 0) ex1 (an 0) ex3 (ah 0) ex5 ex6, pd E ap Vp, sc E an Vn, hb E ah (ak0 0) (ak1 0) (ak2 0) (ak3 0) (ak4 0) (ak5 0) Vh, sc E ak0 Vk0, sc E ak1 Vk1, sc E ak2 Vk2, sc E ak3 Vk3, sc E ak4 Vk4, sc E ak5 Vk5] 0 0 [(2, .int o20), (5, .int o20), (0, .ref (ax 0)), (1, .int s.1), (3, .int s.2.2.1), (4, .int s.2.2.2)] [.int o31] 83
                refine g_istore_n (lv2 := [(3, .int o31), (2, .int o20), (5, .int o20), (0, .ref (ax 0)), (1, .int s.1), (4, .int s.2.2.2)]) C dL_people_83 rfl (by decide) rfl ?_
                refine g_iload_n C dL_people_84 rfl 4 rfl ?_
                refine g_aload_n C dL_people_85 rfl 3 rfl ?_
                refine g_iload C dL_people_86 5 rfl ?_
                refine g_iconst (v := (1 : Int32)) C dL_people_88 (by decide) ?_
                obtain ⟨o33, hq34, hf⟩ := bind_s hf
                refine g_callV (As := [.int s.2.2.2, .int (1 : Int32)]) (rest := [.int s.1]) C k_X5_of (fun l => c_X5_of (E := E) (ax := ax) (ex0 := (ap 0)) (ex1 := ex1) (ex3 := ex3) (ex4 := (ah 0)) (ex5 := ex5) (ex6 := ex6) (an := an) (Vn := Vn) hq34 l) mt_429 [0, 2] rfl (by decide) ⟨_, _, _, _, List.mem_flatten.mpr ⟨_, List.mem_of_getElem? (i := 0) rfl, List.mem_of_getElem? (i := 0) rfl⟩, rfl⟩ rfl (Nat.le_of_ble_eq_true rfl) ⟨Nat.le_of_ble_eq_true rfl, Nat.le_of_ble_eq_true rfl, Nat.le_of_ble_eq_true rfl, Nat.le_of_ble_eq_true rfl⟩ dL_people_89 ?_
                rintro _ _ ⟨rfl, rfl⟩
                show G E X 6 [xo E ax (ap 0) ex1 (an 0) ex3 (ah 0) ex5 ex6, pd E ap Vp, sc E an Vn, hb E ah (ak0 0) (ak1 0) (ak2 0) (ak3 0) (ak4 0) (ak5 0) Vh, sc E ak0 Vk0, sc E ak1 Vk1, sc E ak2 Vk2, sc E ak3 Vk3, sc E ak4 Vk4, sc E ak5 Vk5] 0 0 [(3, .int o31), (2, .int o20), (5, .int o20), (0, .ref (ax 0)), (1, .int s.1), (4, .int s.2.2.2)] [.int o33, .int s.1] 92
                refine g_iadd C dL_people_92 ?_
                refine g_istore_n (lv2 := [(1, .int (s.1 + o33)), (3, .int o31), (2, .int o20), (5, .int o20), (0, .ref (ax 0)), (4, .int s.2.2.2)]) C dL_people_93 rfl (by decide) rfl ?_
                refine g_iinc (v := (s.2.2.2 + (1 : Int32))) (lv2 := [(4, .int (s.2.2.2 + (1 : Int32))), (1, .int (s.1 + o33)), (3, .int o31), (2, .int o20), (5, .int o20), (0, .ref (ax 0))]) C dL_people_94 5 rfl (ii (by decide)) (by decide) rfl ?_
                refine g_goto (tgt := 12) C dL_people_97 (by decide) ?_
                refine g_sub (lv2 := [(0, .ref (ax 0)), (1, .int (s.1 + o33)), (2, .int o20), (3, .int o31), (4, .int (s.2.2.2 + (1 : Int32)))]) [5, 1, 3, 2, 0] rfl ?_
                exact hK12 ((s.1 + o33), o20, o31, (s.2.2.2 + (1 : Int32))) hf
              · have hf := (f_if hf).2 c30
                refine g_sub (lv2 := []) [] rfl ?_
                exact h71 () hf
  unfold f_L_people at hf
  refine g_iconst (v := (0 : Int32)) C dL_people_0 (by decide) ?_
  refine g_istore_n (lv2 := [(1, .int (0 : Int32)), (0, .ref (ax 0))]) C dL_people_1 rfl (by decide) rfl ?_
  refine g_sipush (v := (1000 : Int32)) C dL_people_2 (by decide) ?_
  refine g_istore_n (lv2 := [(2, .int (1000 : Int32)), (1, .int (0 : Int32)), (0, .ref (ax 0))]) C dL_people_5 rfl (by decide) rfl ?_
  refine g_ldc C mt_600 dL_people_6 ?_
  refine g_istore_n (lv2 := [(3, .int (100000 : Int32)), (2, .int (1000 : Int32)), (1, .int (0 : Int32)), (0, .ref (ax 0))]) C dL_people_8 rfl (by decide) rfl ?_
  refine g_iconst (v := (0 : Int32)) C dL_people_9 (by decide) ?_
  refine g_istore (lv2 := [(4, .int (0 : Int32)), (3, .int (100000 : Int32)), (2, .int (1000 : Int32)), (1, .int (0 : Int32)), (0, .ref (ax 0))]) C dL_people_10 (by decide) rfl ?_
  refine g_sub (lv2 := [(0, .ref (ax 0)), (1, .int (0 : Int32)), (2, .int (1000 : Int32)), (3, .int (100000 : Int32)), (4, .int (0 : Int32))]) [4, 3, 2, 1, 0] rfl ?_
  exact h12 N ((0 : Int32), (1000 : Int32), (100000 : Int32), (0 : Int32)) hf
