def b_X0_record_22 (Vh : Hb) (Vk0 : St) (Vk1 : St) (Vk2 : St) (Vk3 : St) (Vk4 : St) (Vk5 : St) (Vw : St) (s : Int32) : Option (Hb × St × St × St × St × St × St) := (if s = (0 : Int32) then ((f_X4_copy Vk0 Vw).bind fun o2 => some ((s, (if (Vh.2 + (1 : Int32)) < (6 : Int32) then (Vh.2 + (1 : Int32)) else (6 : Int32))), o2, Vk1, Vk2, Vk3, Vk4, Vk5)) else (if s = (1 : Int32) then ((f_X4_copy Vk1 Vw).bind fun o5 => some ((s, (if (Vh.2 + (1 : Int32)) < (6 : Int32) then (Vh.2 + (1 : Int32)) else (6 : Int32))), Vk0, o5, Vk2, Vk3, Vk4, Vk5)) else (if s = (2 : Int32) then ((f_X4_copy Vk2 Vw).bind fun o8 => some ((s, (if (Vh.2 + (1 : Int32)) < (6 : Int32) then (Vh.2 + (1 : Int32)) else (6 : Int32))), Vk0, Vk1, o8, Vk3, Vk4, Vk5)) else (if s = (3 : Int32) then ((f_X4_copy Vk3 Vw).bind fun o11 => some ((s, (if (Vh.2 + (1 : Int32)) < (6 : Int32) then (Vh.2 + (1 : Int32)) else (6 : Int32))), Vk0, Vk1, Vk2, o11, Vk4, Vk5)) else (if s = (4 : Int32) then ((f_X4_copy Vk4 Vw).bind fun o14 => some ((s, (if (Vh.2 + (1 : Int32)) < (6 : Int32) then (Vh.2 + (1 : Int32)) else (6 : Int32))), Vk0, Vk1, Vk2, Vk3, o14, Vk5)) else (if s = (5 : Int32) then ((f_X4_copy Vk5 Vw).bind fun o17 => some ((s, (if (Vh.2 + (1 : Int32)) < (6 : Int32) then (Vh.2 + (1 : Int32)) else (6 : Int32))), Vk0, Vk1, Vk2, Vk3, Vk4, o17)) else none))))))
def f_X0_record (Vh : Hb) (Vk0 : St) (Vk1 : St) (Vk2 : St) (Vk3 : St) (Vk4 : St) (Vk5 : St) (Vw : St) : Option (Hb × St × St × St × St × St × St) := (if (6 : Int32) ≤ (Vh.1 + (1 : Int32)) then b_X0_record_22 Vh Vk0 Vk1 Vk2 Vk3 Vk4 Vk5 Vw (0 : Int32) else b_X0_record_22 Vh Vk0 Vk1 Vk2 Vk3 Vk4 Vk5 Vw (Vh.1 + (1 : Int32)))
abbrev rm_X0_record : Room := { frames := 2, cells := 0, slots := 0, locals := 41 }
set_option maxRecDepth 100000 in
theorem k_X0_record : CF yX0_record cX0_record 2 (Option.none : Option FieldType) 1 := ⟨mt_328, mt_329, mt_12, mt_330, ⟨rfl, by decide +kernel, by decide +kernel, by decide +kernel⟩⟩
set_option maxHeartbeats 4000000 in
set_option maxRecDepth 100000 in
theorem c_X0_record {E : Ev} {ah : Nat → Nat} {Vh : Hb} {ak0 : Nat → Nat} {Vk0 : St} {ak1 : Nat → Nat} {Vk1 : St} {ak2 : Nat → Nat} {Vk2 : St} {ak3 : Nat → Nat} {Vk3 : St} {ak4 : Nat → Nat} {Vk4 : St} {ak5 : Nat → Nat} {Vk5 : St} {aw : Nat → Nat} {Vw : St} {o : Hb × St × St × St × St × St × St} (hf : f_X0_record Vh Vk0 Vk1 Vk2 Vk3 Vk4 Vk5 Vw = some o) : ∀ l, MG l yX0_record cX0_record 2 (Option.none : Option FieldType) rm_X0_record E [.ref (ah 0), .ref (aw 0)] [hb E ah (ak0 0) (ak1 0) (ak2 0) (ak3 0) (ak4 0) (ak5 0) Vh, sc E ak0 Vk0, sc E ak1 Vk1, sc E ak2 Vk2, sc E ak3 Vk3, sc E ak4 Vk4, sc E ak5 Vk5, sc E aw Vw] (fun v Y => v = none ∧ Y = [hb E ah (ak0 0) (ak1 0) (ak2 0) (ak3 0) (ak4 0) (ak5 0) o.1, sc E ak0 o.2.1, sc E ak1 o.2.2.1, sc E ak2 o.2.2.2.1, sc E ak3 o.2.2.2.2.1, sc E ak4 o.2.2.2.2.2.1, sc E ak5 o.2.2.2.2.2.2, sc E aw Vw]) := by
  refine MG.mk (own := RX0) (lv0 := [(0, .ref (ah 0)), (1, .ref (aw 0))]) (by decide) rfl (Nat.le_of_ble_eq_true rfl) rfl (fun X C K I => ?_)
  have h22 : ∀ s : Int32, b_X0_record_22 Vh Vk0 Vk1 Vk2 Vk3 Vk4 Vk5 Vw s = some o → G E X 2 [hb E ah (ak0 0) (ak1 0) (ak2 0) (ak3 0) (ak4 0) (ak5 0) Vh, sc E ak0 Vk0, sc E ak1 Vk1, sc E ak2 Vk2, sc E ak3 Vk3, sc E ak4 Vk4, sc E ak5 Vk5, sc E aw Vw] 0 0 [(0, .ref (ah 0)), (1, .ref (aw 0))] [.int s, .ref (ah 0)] 22 := by
    intro s hf
    unfold b_X0_record_22 at hf
    refine g_put (Cl := RX0) (T := TX0) (N := 3) (Y2 := [hb E ah (ak0 0) (ak1 0) (ak2 0) (ak3 0) (ak4 0) (ak5 0) (s, Vh.2), sc E ak0 Vk0, sc E ak1 Vk1, sc E ak2 Vk2, sc E ak3 Vk3, sc E ak4 Vk4, sc E ak5 Vk5, sc E aw Vw]) C mi_X0 tyX0_ok nmX0 0 0 rfl rfl rfl 1 (by decide) mt_287 rfl rfl rfl rfl rfl (Nat.le_of_ble_eq_true rfl) dX0_record_22 rfl ?_
    refine g_aload_n C dX0_record_25 rfl 0 rfl ?_
    refine g_get (Cl := RX0) (T := TX0) (N := 3) C mi_X0 0 rfl (List.mem_of_getElem? (i := 0) rfl) rfl 0 (by decide) mt_286 rfl rfl dX0_record_26 ?_
    refine g_aload_n C dX0_record_29 rfl 0 rfl ?_
    refine g_get (Cl := RX0) (T := TX0) (N := 3) C mi_X0 0 rfl (List.mem_of_getElem? (i := 0) rfl) rfl 1 (by decide) mt_287 rfl rfl dX0_record_30 ?_
    by_cases c1 : s = (0 : Int32)
    · have hf := (f_if hf).1 c1
      refine g_aaload (v := .ref (ak0 0)) (z := s) C 0 rfl (List.mem_of_getElem? (i := 1) rfl) (by rw [c1]; show ¬ (_ ∨ _); decide) (by rw [c1]; rfl) dX0_record_33 ?_
      refine g_aload_n C dX0_record_34 rfl 1 rfl ?_
      obtain ⟨o2, hq3, hf⟩ := bind_s hf
      refine g_callV (As := [.ref (aw 0)]) (rest := []) C k_X4_copy (fun l => c_X4_copy (E := E) (a := ak0) (V := Vk0) (ay := aw) (Vy := Vw) hq3 l) mt_331 [1, 7] rfl (by decide) ⟨_, _, _, _, List.mem_flatten.mpr ⟨_, List.mem_of_getElem? (i := 1) rfl, List.mem_of_getElem? (i := 0) rfl⟩, rfl⟩ rfl (Nat.le_of_ble_eq_true rfl) ⟨Nat.le_of_ble_eq_true rfl, Nat.le_of_ble_eq_true rfl, Nat.le_of_ble_eq_true rfl, Nat.le_of_ble_eq_true rfl⟩ dX0_record_35 ?_
      rintro _ _ ⟨rfl, rfl⟩
      show G E X 2 [hb E ah (ak0 0) (ak1 0) (ak2 0) (ak3 0) (ak4 0) (ak5 0) (s, Vh.2), sc E ak0 o2, sc E ak1 Vk1, sc E ak2 Vk2, sc E ak3 Vk3, sc E ak4 Vk4, sc E ak5 Vk5, sc E aw Vw] 0 0 [(0, .ref (ah 0)), (1, .ref (aw 0))] [] 38
      refine g_aload_n C dX0_record_38 rfl 0 rfl ?_
      refine g_bipush (v := (6 : Int32)) C dX0_record_39 (by decide) ?_
      refine g_aload_n C dX0_record_41 rfl 0 rfl ?_
      refine g_get (Cl := RX0) (T := TX0) (N := 3) C mi_X0 0 rfl (List.mem_of_getElem? (i := 0) rfl) rfl 2 (by decide) mt_288 rfl rfl dX0_record_42 ?_
      refine g_iconst (v := (1 : Int32)) C dX0_record_45 (by decide) ?_
      refine g_iadd C dX0_record_46 ?_
      refine g_mmin C mt_335 mt_336 mt_9 mt_337 (Nat.le_of_ble_eq_true rfl) (Nat.le_of_ble_eq_true rfl) (Nat.le_of_ble_eq_true rfl) (Nat.le_of_ble_eq_true rfl) dX0_record_47 ?_
      refine g_put (Cl := RX0) (T := TX0) (N := 3) (Y2 := [hb E ah (ak0 0) (ak1 0) (ak2 0) (ak3 0) (ak4 0) (ak5 0) (s, (if (Vh.2 + (1 : Int32)) < (6 : Int32) then (Vh.2 + (1 : Int32)) else (6 : Int32))), sc E ak0 o2, sc E ak1 Vk1, sc E ak2 Vk2, sc E ak3 Vk3, sc E ak4 Vk4, sc E ak5 Vk5, sc E aw Vw]) C mi_X0 tyX0_ok nmX0 0 0 rfl rfl rfl 2 (by decide) mt_288 rfl rfl rfl rfl rfl (Nat.le_of_ble_eq_true rfl) dX0_record_50 rfl ?_
      obtain rfl := Option.some.inj hf
      exact g_ret C K dX0_record_53 (Nat.le_of_ble_eq_true rfl) (Nat.le_of_ble_eq_true rfl) ⟨rfl, rfl⟩
    have hf := (f_if hf).2 c1
    by_cases c4 : s = (1 : Int32)
    · have hf := (f_if hf).1 c4
      refine g_aaload (v := .ref (ak1 0)) (z := s) C 0 rfl (List.mem_of_getElem? (i := 1) rfl) (by rw [c4]; show ¬ (_ ∨ _); decide) (by rw [c4]; rfl) dX0_record_33 ?_
      refine g_aload_n C dX0_record_34 rfl 1 rfl ?_
      obtain ⟨o5, hq6, hf⟩ := bind_s hf
      refine g_callV (As := [.ref (aw 0)]) (rest := []) C k_X4_copy (fun l => c_X4_copy (E := E) (a := ak1) (V := Vk1) (ay := aw) (Vy := Vw) hq6 l) mt_331 [2, 7] rfl (by decide) ⟨_, _, _, _, List.mem_flatten.mpr ⟨_, List.mem_of_getElem? (i := 2) rfl, List.mem_of_getElem? (i := 0) rfl⟩, rfl⟩ rfl (Nat.le_of_ble_eq_true rfl) ⟨Nat.le_of_ble_eq_true rfl, Nat.le_of_ble_eq_true rfl, Nat.le_of_ble_eq_true rfl, Nat.le_of_ble_eq_true rfl⟩ dX0_record_35 ?_
      rintro _ _ ⟨rfl, rfl⟩
      show G E X 2 [hb E ah (ak0 0) (ak1 0) (ak2 0) (ak3 0) (ak4 0) (ak5 0) (s, Vh.2), sc E ak0 Vk0, sc E ak1 o5, sc E ak2 Vk2, sc E ak3 Vk3, sc E ak4 Vk4, sc E ak5 Vk5, sc E aw Vw] 0 0 [(0, .ref (ah 0)), (1, .ref (aw 0))] [] 38
      refine g_aload_n C dX0_record_38 rfl 0 rfl ?_
      refine g_bipush (v := (6 : Int32)) C dX0_record_39 (by decide) ?_
      refine g_aload_n C dX0_record_41 rfl 0 rfl ?_
      refine g_get (Cl := RX0) (T := TX0) (N := 3) C mi_X0 0 rfl (List.mem_of_getElem? (i := 0) rfl) rfl 2 (by decide) mt_288 rfl rfl dX0_record_42 ?_
      refine g_iconst (v := (1 : Int32)) C dX0_record_45 (by decide) ?_
      refine g_iadd C dX0_record_46 ?_
      refine g_mmin C mt_335 mt_336 mt_9 mt_337 (Nat.le_of_ble_eq_true rfl) (Nat.le_of_ble_eq_true rfl) (Nat.le_of_ble_eq_true rfl) (Nat.le_of_ble_eq_true rfl) dX0_record_47 ?_
      refine g_put (Cl := RX0) (T := TX0) (N := 3) (Y2 := [hb E ah (ak0 0) (ak1 0) (ak2 0) (ak3 0) (ak4 0) (ak5 0) (s, (if (Vh.2 + (1 : Int32)) < (6 : Int32) then (Vh.2 + (1 : Int32)) else (6 : Int32))), sc E ak0 Vk0, sc E ak1 o5, sc E ak2 Vk2, sc E ak3 Vk3, sc E ak4 Vk4, sc E ak5 Vk5, sc E aw Vw]) C mi_X0 tyX0_ok nmX0 0 0 rfl rfl rfl 2 (by decide) mt_288 rfl rfl rfl rfl rfl (Nat.le_of_ble_eq_true rfl) dX0_record_50 rfl ?_
      obtain rfl := Option.some.inj hf
      exact g_ret C K dX0_record_53 (Nat.le_of_ble_eq_true rfl) (Nat.le_of_ble_eq_true rfl) ⟨rfl, rfl⟩
    have hf := (f_if hf).2 c4
    by_cases c7 : s = (2 : Int32)
    · have hf := (f_if hf).1 c7
      refine g_aaload (v := .ref (ak2 0)) (z := s) C 0 rfl (List.mem_of_getElem? (i := 1) rfl) (by rw [c7]; show ¬ (_ ∨ _); decide) (by rw [c7]; rfl) dX0_record_33 ?_
      refine g_aload_n C dX0_record_34 rfl 1 rfl ?_
      obtain ⟨o8, hq9, hf⟩ := bind_s hf
      refine g_callV (As := [.ref (aw 0)]) (rest := []) C k_X4_copy (fun l => c_X4_copy (E := E) (a := ak2) (V := Vk2) (ay := aw) (Vy := Vw) hq9 l) mt_331 [3, 7] rfl (by decide) ⟨_, _, _, _, List.mem_flatten.mpr ⟨_, List.mem_of_getElem? (i := 3) rfl, List.mem_of_getElem? (i := 0) rfl⟩, rfl⟩ rfl (Nat.le_of_ble_eq_true rfl) ⟨Nat.le_of_ble_eq_true rfl, Nat.le_of_ble_eq_true rfl, Nat.le_of_ble_eq_true rfl, Nat.le_of_ble_eq_true rfl⟩ dX0_record_35 ?_
      rintro _ _ ⟨rfl, rfl⟩
      show G E X 2 [hb E ah (ak0 0) (ak1 0) (ak2 0) (ak3 0) (ak4 0) (ak5 0) (s, Vh.2), sc E ak0 Vk0, sc E ak1 Vk1, sc E ak2 o8, sc E ak3 Vk3, sc E ak4 Vk4, sc E ak5 Vk5, sc E aw Vw] 0 0 [(0, .ref (ah 0)), (1, .ref (aw 0))] [] 38
      refine g_aload_n C dX0_record_38 rfl 0 rfl ?_
      refine g_bipush (v := (6 : Int32)) C dX0_record_39 (by decide) ?_
      refine g_aload_n C dX0_record_41 rfl 0 rfl ?_
      refine g_get (Cl := RX0) (T := TX0) (N := 3) C mi_X0 0 rfl (List.mem_of_getElem? (i := 0) rfl) rfl 2 (by decide) mt_288 rfl rfl dX0_record_42 ?_
      refine g_iconst (v := (1 : Int32)) C dX0_record_45 (by decide) ?_
      refine g_iadd C dX0_record_46 ?_
      refine g_mmin C mt_335 mt_336 mt_9 mt_337 (Nat.le_of_ble_eq_true rfl) (Nat.le_of_ble_eq_true rfl) (Nat.le_of_ble_eq_true rfl) (Nat.le_of_ble_eq_true rfl) dX0_record_47 ?_
      refine g_put (Cl := RX0) (T := TX0) (N := 3) (Y2 := [hb E ah (ak0 0) (ak1 0) (ak2 0) (ak3 0) (ak4 0) (ak5 0) (s, (if (Vh.2 + (1 : Int32)) < (6 : Int32) then (Vh.2 + (1 : Int32)) else (6 : Int32))), sc E ak0 Vk0, sc E ak1 Vk1, sc E ak2 o8, sc E ak3 Vk3, sc E ak4 Vk4, sc E ak5 Vk5, sc E aw Vw]) C mi_X0 tyX0_ok nmX0 0 0 rfl rfl rfl 2 (by decide) mt_288 rfl rfl rfl rfl rfl (Nat.le_of_ble_eq_true rfl) dX0_record_50 rfl ?_
      obtain rfl := Option.some.inj hf
      exact g_ret C K dX0_record_53 (Nat.le_of_ble_eq_true rfl) (Nat.le_of_ble_eq_true rfl) ⟨rfl, rfl⟩
    have hf := (f_if hf).2 c7
    by_cases c10 : s = (3 : Int32)
    · have hf := (f_if hf).1 c10
      refine g_aaload (v := .ref (ak3 0)) (z := s) C 0 rfl (List.mem_of_getElem? (i := 1) rfl) (by rw [c10]; show ¬ (_ ∨ _); decide) (by rw [c10]; rfl) dX0_record_33 ?_
      refine g_aload_n C dX0_record_34 rfl 1 rfl ?_
      obtain ⟨o11, hq12, hf⟩ := bind_s hf
      refine g_callV (As := [.ref (aw 0)]) (rest := []) C k_X4_copy (fun l => c_X4_copy (E := E) (a := ak3) (V := Vk3) (ay := aw) (Vy := Vw) hq12 l) mt_331 [4, 7] rfl (by decide) ⟨_, _, _, _, List.mem_flatten.mpr ⟨_, List.mem_of_getElem? (i := 4) rfl, List.mem_of_getElem? (i := 0) rfl⟩, rfl⟩ rfl (Nat.le_of_ble_eq_true rfl) ⟨Nat.le_of_ble_eq_true rfl, Nat.le_of_ble_eq_true rfl, Nat.le_of_ble_eq_true rfl, Nat.le_of_ble_eq_true rfl⟩ dX0_record_35 ?_
      rintro _ _ ⟨rfl, rfl⟩
      show G E X 2 [hb E ah (ak0 0) (ak1 0) (ak2 0) (ak3 0) (ak4 0) (ak5 0) (s, Vh.2), sc E ak0 Vk0, sc E ak1 Vk1, sc E ak2 Vk2, sc E ak3 o11, sc E ak4 Vk4, sc E ak5 Vk5, sc E aw Vw] 0 0 [(0, .ref (ah 0)), (1, .ref (aw 0))] [] 38
      refine g_aload_n C dX0_record_38 rfl 0 rfl ?_
      refine g_bipush (v := (6 : Int32)) C dX0_record_39 (by decide) ?_
      refine g_aload_n C dX0_record_41 rfl 0 rfl ?_
      refine g_get (Cl := RX0) (T := TX0) (N := 3) C mi_X0 0 rfl (List.mem_of_getElem? (i := 0) rfl) rfl 2 (by decide) mt_288 rfl rfl dX0_record_42 ?_
      refine g_iconst (v := (1 : Int32)) C dX0_record_45 (by decide) ?_
      refine g_iadd C dX0_record_46 ?_
      refine g_mmin C mt_335 mt_336 mt_9 mt_337 (Nat.le_of_ble_eq_true rfl) (Nat.le_of_ble_eq_true rfl) (Nat.le_of_ble_eq_true rfl) (Nat.le_of_ble_eq_true rfl) dX0_record_47 ?_
      refine g_put (Cl := RX0) (T := TX0) (N := 3) (Y2 := [hb E ah (ak0 0) (ak1 0) (ak2 0) (ak3 0) (ak4 0) (ak5 0) (s, (if (Vh.2 + (1 : Int32)) < (6 : Int32) then (Vh.2 + (1 : Int32)) else (6 : Int32))), sc E ak0 Vk0, sc E ak1 Vk1, sc E ak2 Vk2, sc E ak3 o11, sc E ak4 Vk4, sc E ak5 Vk5, sc E aw Vw]) C mi_X0 tyX0_ok nmX0 0 0 rfl rfl rfl 2 (by decide) mt_288 rfl rfl rfl rfl rfl (Nat.le_of_ble_eq_true rfl) dX0_record_50 rfl ?_
      obtain rfl := Option.some.inj hf
      exact g_ret C K dX0_record_53 (Nat.le_of_ble_eq_true rfl) (Nat.le_of_ble_eq_true rfl) ⟨rfl, rfl⟩
    have hf := (f_if hf).2 c10
    by_cases c13 : s = (4 : Int32)
    · have hf := (f_if hf).1 c13
      refine g_aaload (v := .ref (ak4 0)) (z := s) C 0 rfl (List.mem_of_getElem? (i := 1) rfl) (by rw [c13]; show ¬ (_ ∨ _); decide) (by rw [c13]; rfl) dX0_record_33 ?_
      refine g_aload_n C dX0_record_34 rfl 1 rfl ?_
      obtain ⟨o14, hq15, hf⟩ := bind_s hf
      refine g_callV (As := [.ref (aw 0)]) (rest := []) C k_X4_copy (fun l => c_X4_copy (E := E) (a := ak4) (V := Vk4) (ay := aw) (Vy := Vw) hq15 l) mt_331 [5, 7] rfl (by decide) ⟨_, _, _, _, List.mem_flatten.mpr ⟨_, List.mem_of_getElem? (i := 5) rfl, List.mem_of_getElem? (i := 0) rfl⟩, rfl⟩ rfl (Nat.le_of_ble_eq_true rfl) ⟨Nat.le_of_ble_eq_true rfl, Nat.le_of_ble_eq_true rfl, Nat.le_of_ble_eq_true rfl, Nat.le_of_ble_eq_true rfl⟩ dX0_record_35 ?_
      rintro _ _ ⟨rfl, rfl⟩
      show G E X 2 [hb E ah (ak0 0) (ak1 0) (ak2 0) (ak3 0) (ak4 0) (ak5 0) (s, Vh.2), sc E ak0 Vk0, sc E ak1 Vk1, sc E ak2 Vk2, sc E ak3 Vk3, sc E ak4 o14, sc E ak5 Vk5, sc E aw Vw] 0 0 [(0, .ref (ah 0)), (1, .ref (aw 0))] [] 38
      refine g_aload_n C dX0_record_38 rfl 0 rfl ?_
      refine g_bipush (v := (6 : Int32)) C dX0_record_39 (by decide) ?_
      refine g_aload_n C dX0_record_41 rfl 0 rfl ?_
      refine g_get (Cl := RX0) (T := TX0) (N := 3) C mi_X0 0 rfl (List.mem_of_getElem? (i := 0) rfl) rfl 2 (by decide) mt_288 rfl rfl dX0_record_42 ?_
      refine g_iconst (v := (1 : Int32)) C dX0_record_45 (by decide) ?_
      refine g_iadd C dX0_record_46 ?_
      refine g_mmin C mt_335 mt_336 mt_9 mt_337 (Nat.le_of_ble_eq_true rfl) (Nat.le_of_ble_eq_true rfl) (Nat.le_of_ble_eq_true rfl) (Nat.le_of_ble_eq_true rfl) dX0_record_47 ?_
      refine g_put (Cl := RX0) (T := TX0) (N := 3) (Y2 := [hb E ah (ak0 0) (ak1 0) (ak2 0) (ak3 0) (ak4 0) (ak5 0) (s, (if (Vh.2 + (1 : Int32)) < (6 : Int32) then (Vh.2 + (1 : Int32)) else (6 : Int32))), sc E ak0 Vk0, sc E ak1 Vk1, sc E ak2 Vk2, sc E ak3 Vk3, sc E ak4 o14, sc E ak5 Vk5, sc E aw Vw]) C mi_X0 tyX0_ok nmX0 0 0 rfl rfl rfl 2 (by decide) mt_288 rfl rfl rfl rfl rfl (Nat.le_of_ble_eq_true rfl) dX0_record_50 rfl ?_
      obtain rfl := Option.some.inj hf
      exact g_ret C K dX0_record_53 (Nat.le_of_ble_eq_true rfl) (Nat.le_of_ble_eq_true rfl) ⟨rfl, rfl⟩
    have hf := (f_if hf).2 c13
    by_cases c16 : s = (5 : Int32)
    · have hf := (f_if hf).1 c16
      refine g_aaload (v := .ref (ak5 0)) (z := s) C 0 rfl (List.mem_of_getElem? (i := 1) rfl) (by rw [c16]; show ¬ (_ ∨ _); decide) (by rw [c16]; rfl) dX0_record_33 ?_
      refine g_aload_n C dX0_record_34 rfl 1 rfl ?_
      obtain ⟨o17, hq18, hf⟩ := bind_s hf
      refine g_callV (As := [.ref (aw 0)]) (rest := []) C k_X4_copy (fun l => c_X4_copy (E := E) (a := ak5) (V := Vk5) (ay := aw) (Vy := Vw) hq18 l) mt_331 [6, 7] rfl (by decide) ⟨_, _, _, _, List.mem_flatten.mpr ⟨_, List.mem_of_getElem? (i := 6) rfl, List.mem_of_getElem? (i := 0) rfl⟩, rfl⟩ rfl (Nat.le_of_ble_eq_true rfl) ⟨Nat.le_of_ble_eq_true rfl, Nat.le_of_ble_eq_true rfl, Nat.le_of_ble_eq_true rfl, Nat.le_of_ble_eq_true rfl⟩ dX0_record_35 ?_
      rintro _ _ ⟨rfl, rfl⟩
      show G E X 2 [hb E ah (ak0 0) (ak1 0) (ak2 0) (ak3 0) (ak4 0) (ak5 0) (s, Vh.2), sc E ak0 Vk0, sc E ak1 Vk1, sc E ak2 Vk2, sc E ak3 Vk3, sc E ak4 Vk4, sc E ak5 o17, sc E aw Vw] 0 0 [(0, .ref (ah 0)), (1, .ref (aw 0))] [] 38
      refine g_aload_n C dX0_record_38 rfl 0 rfl ?_
      refine g_bipush (v := (6 : Int32)) C dX0_record_39 (by decide) ?_
      refine g_aload_n C dX0_record_41 rfl 0 rfl ?_
      refine g_get (Cl := RX0) (T := TX0) (N := 3) C mi_X0 0 rfl (List.mem_of_getElem? (i := 0) rfl) rfl 2 (by decide) mt_288 rfl rfl dX0_record_42 ?_
      refine g_iconst (v := (1 : Int32)) C dX0_record_45 (by decide) ?_
      refine g_iadd C dX0_record_46 ?_
      refine g_mmin C mt_335 mt_336 mt_9 mt_337 (Nat.le_of_ble_eq_true rfl) (Nat.le_of_ble_eq_true rfl) (Nat.le_of_ble_eq_true rfl) (Nat.le_of_ble_eq_true rfl) dX0_record_47 ?_
      refine g_put (Cl := RX0) (T := TX0) (N := 3) (Y2 := [hb E ah (ak0 0) (ak1 0) (ak2 0) (ak3 0) (ak4 0) (ak5 0) (s, (if (Vh.2 + (1 : Int32)) < (6 : Int32) then (Vh.2 + (1 : Int32)) else (6 : Int32))), sc E ak0 Vk0, sc E ak1 Vk1, sc E ak2 Vk2, sc E ak3 Vk3, sc E ak4 Vk4, sc E ak5 o17, sc E aw Vw]) C mi_X0 tyX0_ok nmX0 0 0 rfl rfl rfl 2 (by decide) mt_288 rfl rfl rfl rfl rfl (Nat.le_of_ble_eq_true rfl) dX0_record_50 rfl ?_
      obtain rfl := Option.some.inj hf
      exact g_ret C K dX0_record_53 (Nat.le_of_ble_eq_true rfl) (Nat.le_of_ble_eq_true rfl) ⟨rfl, rfl⟩
    have hf := (f_if hf).2 c16
    cases hf
  unfold f_X0_record at hf
  refine g_aload_n C dX0_record_0 rfl 0 rfl ?_
  refine g_aload_n C dX0_record_1 rfl 0 rfl ?_
  refine g_get (Cl := RX0) (T := TX0) (N := 3) C mi_X0 0 rfl (List.mem_of_getElem? (i := 0) rfl) rfl 1 (by decide) mt_287 rfl rfl dX0_record_2 ?_
  refine g_iconst (v := (1 : Int32)) C dX0_record_5 (by decide) ?_
  refine g_iadd C dX0_record_6 ?_
  refine g_bipush (v := (6 : Int32)) C dX0_record_7 (by decide) ?_
  refine g_icmp_ge (tgt := 21) C dX0_record_9 (by decide) (fun c19 => ?_) (fun c19 => ?_)
  · have hf := (f_if hf).1 c19
    refine g_iconst (v := (0 : Int32)) C dX0_record_21 (by decide) ?_
    exact h22 (0 : Int32) hf
  · have hf := (f_if hf).2 c19
    refine g_aload_n C dX0_record_12 rfl 0 rfl ?_
    refine g_get (Cl := RX0) (T := TX0) (N := 3) C mi_X0 0 rfl (List.mem_of_getElem? (i := 0) rfl) rfl 1 (by decide) mt_287 rfl rfl dX0_record_13 ?_
    refine g_iconst (v := (1 : Int32)) C dX0_record_16 (by decide) ?_
    refine g_iadd C dX0_record_17 ?_
    refine g_goto (tgt := 22) C dX0_record_18 (by decide) ?_
    exact h22 (Vh.1 + (1 : Int32)) hf
def b_X0_takeBack_31 (Vh : Hb) (Vk0 : St) (Vk1 : St) (Vk2 : St) (Vk3 : St) (Vk4 : St) (Vk5 : St) (Vw : St) (s : St × Int32) : Option (Hb × St) := some ((s.2, (Vh.2 - (1 : Int32))), s.1)
def f_X0_takeBack (Vh : Hb) (Vk0 : St) (Vk1 : St) (Vk2 : St) (Vk3 : St) (Vk4 : St) (Vk5 : St) (Vw : St) : Option (Hb × St) := (if Vh.1 = (0 : Int32) then ((f_X4_copy Vw Vk0).bind fun o2 => (if Vh.1 ≤ 0 then b_X0_takeBack_31 Vh Vk0 Vk1 Vk2 Vk3 Vk4 Vk5 Vw (o2, (5 : Int32)) else b_X0_takeBack_31 Vh Vk0 Vk1 Vk2 Vk3 Vk4 Vk5 Vw (o2, (Vh.1 - (1 : Int32))))) else (if Vh.1 = (1 : Int32) then ((f_X4_copy Vw Vk1).bind fun o6 => (if Vh.1 ≤ 0 then b_X0_takeBack_31 Vh Vk0 Vk1 Vk2 Vk3 Vk4 Vk5 Vw (o6, (5 : Int32)) else b_X0_takeBack_31 Vh Vk0 Vk1 Vk2 Vk3 Vk4 Vk5 Vw (o6, (Vh.1 - (1 : Int32))))) else (if Vh.1 = (2 : Int32) then ((f_X4_copy Vw Vk2).bind fun o10 => (if Vh.1 ≤ 0 then b_X0_takeBack_31 Vh Vk0 Vk1 Vk2 Vk3 Vk4 Vk5 Vw (o10, (5 : Int32)) else b_X0_takeBack_31 Vh Vk0 Vk1 Vk2 Vk3 Vk4 Vk5 Vw (o10, (Vh.1 - (1 : Int32))))) else (if Vh.1 = (3 : Int32) then ((f_X4_copy Vw Vk3).bind fun o14 => (if Vh.1 ≤ 0 then b_X0_takeBack_31 Vh Vk0 Vk1 Vk2 Vk3 Vk4 Vk5 Vw (o14, (5 : Int32)) else b_X0_takeBack_31 Vh Vk0 Vk1 Vk2 Vk3 Vk4 Vk5 Vw (o14, (Vh.1 - (1 : Int32))))) else (if Vh.1 = (4 : Int32) then ((f_X4_copy Vw Vk4).bind fun o18 => (if Vh.1 ≤ 0 then b_X0_takeBack_31 Vh Vk0 Vk1 Vk2 Vk3 Vk4 Vk5 Vw (o18, (5 : Int32)) else b_X0_takeBack_31 Vh Vk0 Vk1 Vk2 Vk3 Vk4 Vk5 Vw (o18, (Vh.1 - (1 : Int32))))) else (if Vh.1 = (5 : Int32) then ((f_X4_copy Vw Vk5).bind fun o22 => (if Vh.1 ≤ 0 then b_X0_takeBack_31 Vh Vk0 Vk1 Vk2 Vk3 Vk4 Vk5 Vw (o22, (5 : Int32)) else b_X0_takeBack_31 Vh Vk0 Vk1 Vk2 Vk3 Vk4 Vk5 Vw (o22, (Vh.1 - (1 : Int32))))) else none))))))
abbrev rm_X0_takeBack : Room := { frames := 2, cells := 0, slots := 0, locals := 41 }
set_option maxRecDepth 100000 in
theorem k_X0_takeBack : CF yX0_takeBack cX0_takeBack 2 (Option.none : Option FieldType) 1 := ⟨mt_618, mt_619, mt_12, mt_620, ⟨rfl, by decide +kernel, by decide +kernel, by decide +kernel⟩⟩
set_option maxHeartbeats 4000000 in
set_option maxRecDepth 100000 in
theorem c_X0_takeBack {E : Ev} {ah : Nat → Nat} {Vh : Hb} {ak0 : Nat → Nat} {Vk0 : St} {ak1 : Nat → Nat} {Vk1 : St} {ak2 : Nat → Nat} {Vk2 : St} {ak3 : Nat → Nat} {Vk3 : St} {ak4 : Nat → Nat} {Vk4 : St} {ak5 : Nat → Nat} {Vk5 : St} {aw : Nat → Nat} {Vw : St} {o : Hb × St} (hf : f_X0_takeBack Vh Vk0 Vk1 Vk2 Vk3 Vk4 Vk5 Vw = some o) : ∀ l, MG l yX0_takeBack cX0_takeBack 2 (Option.none : Option FieldType) rm_X0_takeBack E [.ref (ah 0), .ref (aw 0)] [hb E ah (ak0 0) (ak1 0) (ak2 0) (ak3 0) (ak4 0) (ak5 0) Vh, sc E ak0 Vk0, sc E ak1 Vk1, sc E ak2 Vk2, sc E ak3 Vk3, sc E ak4 Vk4, sc E ak5 Vk5, sc E aw Vw] (fun v Y => v = none ∧ Y = [hb E ah (ak0 0) (ak1 0) (ak2 0) (ak3 0) (ak4 0) (ak5 0) o.1, sc E ak0 Vk0, sc E ak1 Vk1, sc E ak2 Vk2, sc E ak3 Vk3, sc E ak4 Vk4, sc E ak5 Vk5, sc E aw o.2]) := by
  refine MG.mk (own := RX0) (lv0 := [(0, .ref (ah 0)), (1, .ref (aw 0))]) (by decide) rfl (Nat.le_of_ble_eq_true rfl) rfl (fun X C K I => ?_)
  have h31 : ∀ s : St × Int32, b_X0_takeBack_31 Vh Vk0 Vk1 Vk2 Vk3 Vk4 Vk5 Vw s = some o → G E X 2 [hb E ah (ak0 0) (ak1 0) (ak2 0) (ak3 0) (ak4 0) (ak5 0) Vh, sc E ak0 Vk0, sc E ak1 Vk1, sc E ak2 Vk2, sc E ak3 Vk3, sc E ak4 Vk4, sc E ak5 Vk5, sc E aw s.1] 0 0 [(0, .ref (ah 0))] [.int s.2, .ref (ah 0)] 31 := by
    intro s hf
    unfold b_X0_takeBack_31 at hf
    refine g_put (Cl := RX0) (T := TX0) (N := 3) (Y2 := [hb E ah (ak0 0) (ak1 0) (ak2 0) (ak3 0) (ak4 0) (ak5 0) (s.2, Vh.2), sc E ak0 Vk0, sc E ak1 Vk1, sc E ak2 Vk2, sc E ak3 Vk3, sc E ak4 Vk4, sc E ak5 Vk5, sc E aw s.1]) C mi_X0 tyX0_ok nmX0 0 0 rfl rfl rfl 1 (by decide) mt_287 rfl rfl rfl rfl rfl (Nat.le_of_ble_eq_true rfl) dX0_takeBack_31 rfl ?_
    refine g_aload_n C dX0_takeBack_34 rfl 0 rfl ?_
    refine g_dup C dX0_takeBack_35 rfl ?_
    refine g_get (Cl := RX0) (T := TX0) (N := 3) C mi_X0 0 rfl (List.mem_of_getElem? (i := 0) rfl) rfl 2 (by decide) mt_288 rfl rfl dX0_takeBack_36 ?_
    refine g_iconst (v := (1 : Int32)) C dX0_takeBack_39 (by decide) ?_
    refine g_isub C dX0_takeBack_40 ?_
    refine g_put (Cl := RX0) (T := TX0) (N := 3) (Y2 := [hb E ah (ak0 0) (ak1 0) (ak2 0) (ak3 0) (ak4 0) (ak5 0) (s.2, (Vh.2 - (1 : Int32))), sc E ak0 Vk0, sc E ak1 Vk1, sc E ak2 Vk2, sc E ak3 Vk3, sc E ak4 Vk4, sc E ak5 Vk5, sc E aw s.1]) C mi_X0 tyX0_ok nmX0 0 0 rfl rfl rfl 2 (by decide) mt_288 rfl rfl rfl rfl rfl (Nat.le_of_ble_eq_true rfl) dX0_takeBack_41 rfl ?_
    obtain rfl := Option.some.inj hf
    exact g_ret C K dX0_takeBack_44 (Nat.le_of_ble_eq_true rfl) (Nat.le_of_ble_eq_true rfl) ⟨rfl, rfl⟩
  unfold f_X0_takeBack at hf
  refine g_aload_n C dX0_takeBack_0 rfl 1 rfl ?_
  refine g_aload_n C dX0_takeBack_1 rfl 0 rfl ?_
  refine g_get (Cl := RX0) (T := TX0) (N := 3) C mi_X0 0 rfl (List.mem_of_getElem? (i := 0) rfl) rfl 0 (by decide) mt_286 rfl rfl dX0_takeBack_2 ?_
  refine g_aload_n C dX0_takeBack_5 rfl 0 rfl ?_
  refine g_get (Cl := RX0) (T := TX0) (N := 3) C mi_X0 0 rfl (List.mem_of_getElem? (i := 0) rfl) rfl 1 (by decide) mt_287 rfl rfl dX0_takeBack_6 ?_
  by_cases c1 : Vh.1 = (0 : Int32)
  · have hf := (f_if hf).1 c1
    refine g_aaload (v := .ref (ak0 0)) (z := Vh.1) C 0 rfl (List.mem_of_getElem? (i := 1) rfl) (by rw [c1]; show ¬ (_ ∨ _); decide) (by rw [c1]; rfl) dX0_takeBack_9 ?_
    obtain ⟨o2, hq3, hf⟩ := bind_s hf
    refine g_callV (As := [.ref (ak0 0)]) (rest := []) C k_X4_copy (fun l => c_X4_copy (E := E) (a := aw) (V := Vw) (ay := ak0) (Vy := Vk0) hq3 l) mt_331 [7, 1] rfl (by decide) ⟨_, _, _, _, List.mem_flatten.mpr ⟨_, List.mem_of_getElem? (i := 7) rfl, List.mem_of_getElem? (i := 0) rfl⟩, rfl⟩ rfl (Nat.le_of_ble_eq_true rfl) ⟨Nat.le_of_ble_eq_true rfl, Nat.le_of_ble_eq_true rfl, Nat.le_of_ble_eq_true rfl, Nat.le_of_ble_eq_true rfl⟩ dX0_takeBack_10 ?_
    rintro _ _ ⟨rfl, rfl⟩
    show G E X 2 [hb E ah (ak0 0) (ak1 0) (ak2 0) (ak3 0) (ak4 0) (ak5 0) Vh, sc E ak0 Vk0, sc E ak1 Vk1, sc E ak2 Vk2, sc E ak3 Vk3, sc E ak4 Vk4, sc E ak5 Vk5, sc E aw o2] 0 0 [(0, .ref (ah 0)), (1, .ref (aw 0))] [] 13
    refine g_aload_n C dX0_takeBack_13 rfl 0 rfl ?_
    refine g_aload_n C dX0_takeBack_14 rfl 0 rfl ?_
    refine g_get (Cl := RX0) (T := TX0) (N := 3) C mi_X0 0 rfl (List.mem_of_getElem? (i := 0) rfl) rfl 1 (by decide) mt_287 rfl rfl dX0_takeBack_15 ?_
    refine g_if_le (tgt := 30) C dX0_takeBack_18 (by decide) (fun c4 => ?_) (fun c4 => ?_)
    · have hf := (f_if hf).1 c4
      refine g_iconst (v := (5 : Int32)) C dX0_takeBack_30 (by decide) ?_
      refine g_sub (lv2 := [(0, .ref (ah 0))]) [0] rfl ?_
      exact h31 (o2, (5 : Int32)) hf
    · have hf := (f_if hf).2 c4
      refine g_aload_n C dX0_takeBack_21 rfl 0 rfl ?_
      refine g_get (Cl := RX0) (T := TX0) (N := 3) C mi_X0 0 rfl (List.mem_of_getElem? (i := 0) rfl) rfl 1 (by decide) mt_287 rfl rfl dX0_takeBack_22 ?_
      refine g_iconst (v := (1 : Int32)) C dX0_takeBack_25 (by decide) ?_
      refine g_isub C dX0_takeBack_26 ?_
      refine g_goto (tgt := 31) C dX0_takeBack_27 (by decide) ?_
      refine g_sub (lv2 := [(0, .ref (ah 0))]) [0] rfl ?_
      exact h31 (o2, (Vh.1 - (1 : Int32))) hf
  have hf := (f_if hf).2 c1
  by_cases c5 : Vh.1 = (1 : Int32)
  · have hf := (f_if hf).1 c5
    refine g_aaload (v := .ref (ak1 0)) (z := Vh.1) C 0 rfl (List.mem_of_getElem? (i := 1) rfl) (by rw [c5]; show ¬ (_ ∨ _); decide) (by rw [c5]; rfl) dX0_takeBack_9 ?_
    obtain ⟨o6, hq7, hf⟩ := bind_s hf
    refine g_callV (As := [.ref (ak1 0)]) (rest := []) C k_X4_copy (fun l => c_X4_copy (E := E) (a := aw) (V := Vw) (ay := ak1) (Vy := Vk1) hq7 l) mt_331 [7, 2] rfl (by decide) ⟨_, _, _, _, List.mem_flatten.mpr ⟨_, List.mem_of_getElem? (i := 7) rfl, List.mem_of_getElem? (i := 0) rfl⟩, rfl⟩ rfl (Nat.le_of_ble_eq_true rfl) ⟨Nat.le_of_ble_eq_true rfl, Nat.le_of_ble_eq_true rfl, Nat.le_of_ble_eq_true rfl, Nat.le_of_ble_eq_true rfl⟩ dX0_takeBack_10 ?_
    rintro _ _ ⟨rfl, rfl⟩
    show G E X 2 [hb E ah (ak0 0) (ak1 0) (ak2 0) (ak3 0) (ak4 0) (ak5 0) Vh, sc E ak0 Vk0, sc E ak1 Vk1, sc E ak2 Vk2, sc E ak3 Vk3, sc E ak4 Vk4, sc E ak5 Vk5, sc E aw o6] 0 0 [(0, .ref (ah 0)), (1, .ref (aw 0))] [] 13
    refine g_aload_n C dX0_takeBack_13 rfl 0 rfl ?_
    refine g_aload_n C dX0_takeBack_14 rfl 0 rfl ?_
    refine g_get (Cl := RX0) (T := TX0) (N := 3) C mi_X0 0 rfl (List.mem_of_getElem? (i := 0) rfl) rfl 1 (by decide) mt_287 rfl rfl dX0_takeBack_15 ?_
    refine g_if_le (tgt := 30) C dX0_takeBack_18 (by decide) (fun c8 => ?_) (fun c8 => ?_)
    · have hf := (f_if hf).1 c8
      refine g_iconst (v := (5 : Int32)) C dX0_takeBack_30 (by decide) ?_
      refine g_sub (lv2 := [(0, .ref (ah 0))]) [0] rfl ?_
      exact h31 (o6, (5 : Int32)) hf
    · have hf := (f_if hf).2 c8
      refine g_aload_n C dX0_takeBack_21 rfl 0 rfl ?_
      refine g_get (Cl := RX0) (T := TX0) (N := 3) C mi_X0 0 rfl (List.mem_of_getElem? (i := 0) rfl) rfl 1 (by decide) mt_287 rfl rfl dX0_takeBack_22 ?_
      refine g_iconst (v := (1 : Int32)) C dX0_takeBack_25 (by decide) ?_
      refine g_isub C dX0_takeBack_26 ?_
      refine g_goto (tgt := 31) C dX0_takeBack_27 (by decide) ?_
      refine g_sub (lv2 := [(0, .ref (ah 0))]) [0] rfl ?_
      exact h31 (o6, (Vh.1 - (1 : Int32))) hf
  have hf := (f_if hf).2 c5
  by_cases c9 : Vh.1 = (2 : Int32)
  · have hf := (f_if hf).1 c9
    refine g_aaload (v := .ref (ak2 0)) (z := Vh.1) C 0 rfl (List.mem_of_getElem? (i := 1) rfl) (by rw [c9]; show ¬ (_ ∨ _); decide) (by rw [c9]; rfl) dX0_takeBack_9 ?_
    obtain ⟨o10, hq11, hf⟩ := bind_s hf
    refine g_callV (As := [.ref (ak2 0)]) (rest := []) C k_X4_copy (fun l => c_X4_copy (E := E) (a := aw) (V := Vw) (ay := ak2) (Vy := Vk2) hq11 l) mt_331 [7, 3] rfl (by decide) ⟨_, _, _, _, List.mem_flatten.mpr ⟨_, List.mem_of_getElem? (i := 7) rfl, List.mem_of_getElem? (i := 0) rfl⟩, rfl⟩ rfl (Nat.le_of_ble_eq_true rfl) ⟨Nat.le_of_ble_eq_true rfl, Nat.le_of_ble_eq_true rfl, Nat.le_of_ble_eq_true rfl, Nat.le_of_ble_eq_true rfl⟩ dX0_takeBack_10 ?_
    rintro _ _ ⟨rfl, rfl⟩
    show G E X 2 [hb E ah (ak0 0) (ak1 0) (ak2 0) (ak3 0) (ak4 0) (ak5 0) Vh, sc E ak0 Vk0, sc E ak1 Vk1, sc E ak2 Vk2, sc E ak3 Vk3, sc E ak4 Vk4, sc E ak5 Vk5, sc E aw o10] 0 0 [(0, .ref (ah 0)), (1, .ref (aw 0))] [] 13
    refine g_aload_n C dX0_takeBack_13 rfl 0 rfl ?_
    refine g_aload_n C dX0_takeBack_14 rfl 0 rfl ?_
    refine g_get (Cl := RX0) (T := TX0) (N := 3) C mi_X0 0 rfl (List.mem_of_getElem? (i := 0) rfl) rfl 1 (by decide) mt_287 rfl rfl dX0_takeBack_15 ?_
    refine g_if_le (tgt := 30) C dX0_takeBack_18 (by decide) (fun c12 => ?_) (fun c12 => ?_)
    · have hf := (f_if hf).1 c12
      refine g_iconst (v := (5 : Int32)) C dX0_takeBack_30 (by decide) ?_
      refine g_sub (lv2 := [(0, .ref (ah 0))]) [0] rfl ?_
      exact h31 (o10, (5 : Int32)) hf
    · have hf := (f_if hf).2 c12
      refine g_aload_n C dX0_takeBack_21 rfl 0 rfl ?_
      refine g_get (Cl := RX0) (T := TX0) (N := 3) C mi_X0 0 rfl (List.mem_of_getElem? (i := 0) rfl) rfl 1 (by decide) mt_287 rfl rfl dX0_takeBack_22 ?_
      refine g_iconst (v := (1 : Int32)) C dX0_takeBack_25 (by decide) ?_
      refine g_isub C dX0_takeBack_26 ?_
      refine g_goto (tgt := 31) C dX0_takeBack_27 (by decide) ?_
      refine g_sub (lv2 := [(0, .ref (ah 0))]) [0] rfl ?_
      exact h31 (o10, (Vh.1 - (1 : Int32))) hf
  have hf := (f_if hf).2 c9
  by_cases c13 : Vh.1 = (3 : Int32)
  · have hf := (f_if hf).1 c13
    refine g_aaload (v := .ref (ak3 0)) (z := Vh.1) C 0 rfl (List.mem_of_getElem? (i := 1) rfl) (by rw [c13]; show ¬ (_ ∨ _); decide) (by rw [c13]; rfl) dX0_takeBack_9 ?_
    obtain ⟨o14, hq15, hf⟩ := bind_s hf
    refine g_callV (As := [.ref (ak3 0)]) (rest := []) C k_X4_copy (fun l => c_X4_copy (E := E) (a := aw) (V := Vw) (ay := ak3) (Vy := Vk3) hq15 l) mt_331 [7, 4] rfl (by decide) ⟨_, _, _, _, List.mem_flatten.mpr ⟨_, List.mem_of_getElem? (i := 7) rfl, List.mem_of_getElem? (i := 0) rfl⟩, rfl⟩ rfl (Nat.le_of_ble_eq_true rfl) ⟨Nat.le_of_ble_eq_true rfl, Nat.le_of_ble_eq_true rfl, Nat.le_of_ble_eq_true rfl, Nat.le_of_ble_eq_true rfl⟩ dX0_takeBack_10 ?_
    rintro _ _ ⟨rfl, rfl⟩
    show G E X 2 [hb E ah (ak0 0) (ak1 0) (ak2 0) (ak3 0) (ak4 0) (ak5 0) Vh, sc E ak0 Vk0, sc E ak1 Vk1, sc E ak2 Vk2, sc E ak3 Vk3, sc E ak4 Vk4, sc E ak5 Vk5, sc E aw o14] 0 0 [(0, .ref (ah 0)), (1, .ref (aw 0))] [] 13
    refine g_aload_n C dX0_takeBack_13 rfl 0 rfl ?_
    refine g_aload_n C dX0_takeBack_14 rfl 0 rfl ?_
    refine g_get (Cl := RX0) (T := TX0) (N := 3) C mi_X0 0 rfl (List.mem_of_getElem? (i := 0) rfl) rfl 1 (by decide) mt_287 rfl rfl dX0_takeBack_15 ?_
    refine g_if_le (tgt := 30) C dX0_takeBack_18 (by decide) (fun c16 => ?_) (fun c16 => ?_)
    · have hf := (f_if hf).1 c16
      refine g_iconst (v := (5 : Int32)) C dX0_takeBack_30 (by decide) ?_
      refine g_sub (lv2 := [(0, .ref (ah 0))]) [0] rfl ?_
      exact h31 (o14, (5 : Int32)) hf
    · have hf := (f_if hf).2 c16
      refine g_aload_n C dX0_takeBack_21 rfl 0 rfl ?_
      refine g_get (Cl := RX0) (T := TX0) (N := 3) C mi_X0 0 rfl (List.mem_of_getElem? (i := 0) rfl) rfl 1 (by decide) mt_287 rfl rfl dX0_takeBack_22 ?_
      refine g_iconst (v := (1 : Int32)) C dX0_takeBack_25 (by decide) ?_
      refine g_isub C dX0_takeBack_26 ?_
      refine g_goto (tgt := 31) C dX0_takeBack_27 (by decide) ?_
      refine g_sub (lv2 := [(0, .ref (ah 0))]) [0] rfl ?_
      exact h31 (o14, (Vh.1 - (1 : Int32))) hf
  have hf := (f_if hf).2 c13
  by_cases c17 : Vh.1 = (4 : Int32)
  · have hf := (f_if hf).1 c17
    refine g_aaload (v := .ref (ak4 0)) (z := Vh.1) C 0 rfl (List.mem_of_getElem? (i := 1) rfl) (by rw [c17]; show ¬ (_ ∨ _); decide) (by rw [c17]; rfl) dX0_takeBack_9 ?_
    obtain ⟨o18, hq19, hf⟩ := bind_s hf
    refine g_callV (As := [.ref (ak4 0)]) (rest := []) C k_X4_copy (fun l => c_X4_copy (E := E) (a := aw) (V := Vw) (ay := ak4) (Vy := Vk4) hq19 l) mt_331 [7, 5] rfl (by decide) ⟨_, _, _, _, List.mem_flatten.mpr ⟨_, List.mem_of_getElem? (i := 7) rfl, List.mem_of_getElem? (i := 0) rfl⟩, rfl⟩ rfl (Nat.le_of_ble_eq_true rfl) ⟨Nat.le_of_ble_eq_true rfl, Nat.le_of_ble_eq_true rfl, Nat.le_of_ble_eq_true rfl, Nat.le_of_ble_eq_true rfl⟩ dX0_takeBack_10 ?_
    rintro _ _ ⟨rfl, rfl⟩
    show G E X 2 [hb E ah (ak0 0) (ak1 0) (ak2 0) (ak3 0) (ak4 0) (ak5 0) Vh, sc E ak0 Vk0, sc E ak1 Vk1, sc E ak2 Vk2, sc E ak3 Vk3, sc E ak4 Vk4, sc E ak5 Vk5, sc E aw o18] 0 0 [(0, .ref (ah 0)), (1, .ref (aw 0))] [] 13
    refine g_aload_n C dX0_takeBack_13 rfl 0 rfl ?_
    refine g_aload_n C dX0_takeBack_14 rfl 0 rfl ?_
    refine g_get (Cl := RX0) (T := TX0) (N := 3) C mi_X0 0 rfl (List.mem_of_getElem? (i := 0) rfl) rfl 1 (by decide) mt_287 rfl rfl dX0_takeBack_15 ?_
    refine g_if_le (tgt := 30) C dX0_takeBack_18 (by decide) (fun c20 => ?_) (fun c20 => ?_)
    · have hf := (f_if hf).1 c20
      refine g_iconst (v := (5 : Int32)) C dX0_takeBack_30 (by decide) ?_
      refine g_sub (lv2 := [(0, .ref (ah 0))]) [0] rfl ?_
      exact h31 (o18, (5 : Int32)) hf
    · have hf := (f_if hf).2 c20
      refine g_aload_n C dX0_takeBack_21 rfl 0 rfl ?_
      refine g_get (Cl := RX0) (T := TX0) (N := 3) C mi_X0 0 rfl (List.mem_of_getElem? (i := 0) rfl) rfl 1 (by decide) mt_287 rfl rfl dX0_takeBack_22 ?_
      refine g_iconst (v := (1 : Int32)) C dX0_takeBack_25 (by decide) ?_
      refine g_isub C dX0_takeBack_26 ?_
      refine g_goto (tgt := 31) C dX0_takeBack_27 (by decide) ?_
      refine g_sub (lv2 := [(0, .ref (ah 0))]) [0] rfl ?_
      exact h31 (o18, (Vh.1 - (1 : Int32))) hf
  have hf := (f_if hf).2 c17
  by_cases c21 : Vh.1 = (5 : Int32)
  · have hf := (f_if hf).1 c21
    refine g_aaload (v := .ref (ak5 0)) (z := Vh.1) C 0 rfl (List.mem_of_getElem? (i := 1) rfl) (by rw [c21]; show ¬ (_ ∨ _); decide) (by rw [c21]; rfl) dX0_takeBack_9 ?_
    obtain ⟨o22, hq23, hf⟩ := bind_s hf
    refine g_callV (As := [.ref (ak5 0)]) (rest := []) C k_X4_copy (fun l => c_X4_copy (E := E) (a := aw) (V := Vw) (ay := ak5) (Vy := Vk5) hq23 l) mt_331 [7, 6] rfl (by decide) ⟨_, _, _, _, List.mem_flatten.mpr ⟨_, List.mem_of_getElem? (i := 7) rfl, List.mem_of_getElem? (i := 0) rfl⟩, rfl⟩ rfl (Nat.le_of_ble_eq_true rfl) ⟨Nat.le_of_ble_eq_true rfl, Nat.le_of_ble_eq_true rfl, Nat.le_of_ble_eq_true rfl, Nat.le_of_ble_eq_true rfl⟩ dX0_takeBack_10 ?_
    rintro _ _ ⟨rfl, rfl⟩
    show G E X 2 [hb E ah (ak0 0) (ak1 0) (ak2 0) (ak3 0) (ak4 0) (ak5 0) Vh, sc E ak0 Vk0, sc E ak1 Vk1, sc E ak2 Vk2, sc E ak3 Vk3, sc E ak4 Vk4, sc E ak5 Vk5, sc E aw o22] 0 0 [(0, .ref (ah 0)), (1, .ref (aw 0))] [] 13
    refine g_aload_n C dX0_takeBack_13 rfl 0 rfl ?_
    refine g_aload_n C dX0_takeBack_14 rfl 0 rfl ?_
    refine g_get (Cl := RX0) (T := TX0) (N := 3) C mi_X0 0 rfl (List.mem_of_getElem? (i := 0) rfl) rfl 1 (by decide) mt_287 rfl rfl dX0_takeBack_15 ?_
    refine g_if_le (tgt := 30) C dX0_takeBack_18 (by decide) (fun c24 => ?_) (fun c24 => ?_)
    · have hf := (f_if hf).1 c24
      refine g_iconst (v := (5 : Int32)) C dX0_takeBack_30 (by decide) ?_
      refine g_sub (lv2 := [(0, .ref (ah 0))]) [0] rfl ?_
      exact h31 (o22, (5 : Int32)) hf
    · have hf := (f_if hf).2 c24
      refine g_aload_n C dX0_takeBack_21 rfl 0 rfl ?_
      refine g_get (Cl := RX0) (T := TX0) (N := 3) C mi_X0 0 rfl (List.mem_of_getElem? (i := 0) rfl) rfl 1 (by decide) mt_287 rfl rfl dX0_takeBack_22 ?_
      refine g_iconst (v := (1 : Int32)) C dX0_takeBack_25 (by decide) ?_
      refine g_isub C dX0_takeBack_26 ?_
      refine g_goto (tgt := 31) C dX0_takeBack_27 (by decide) ?_
      refine g_sub (lv2 := [(0, .ref (ah 0))]) [0] rfl ?_
      exact h31 (o22, (Vh.1 - (1 : Int32))) hf
  have hf := (f_if hf).2 c21
  cases hf
