set_option maxHeartbeats 8000000 in
set_option maxRecDepth 100000 in
theorem law_A {E : Ev} {X : Cx} {b L : Nat} {xs : Nat → Int32} {N : Nat} {ex5 : Nat} {ex6 : Nat} {ax : Nat → Nat} {ap : Nat → Nat} {ad : Nat → Nat} {an : Nat → Nat} {am : Nat → Nat} {ah : Nat → Nat} {ak0 : Nat → Nat} {ak1 : Nat → Nat} {ak2 : Nat → Nat} {ak3 : Nat → Nat} {ak4 : Nat → Nat} {ak5 : Nat → Nat} {gu : va_W} {ρ : Nat → Option Ru} (C : Ct E X cL_law RL room_1 11) (hLx : Lx X b) (hsL : E.2.2.2.2.2.2.2.2.1 = L) (hsx : E.2.2.2.2.2.2.2.2.2 = xs) (hgu : ∀ r R, ρ r = some R → RIn E gu r R) {k n : Nat} (hk : k ≤ 600000) (hn : n ≤ 7302250) (K248 : (Pd × Rd × St × St × Hb × St × St × St × St × St × St × Int32 × Int32) → Option Unit) (hK248 : ∀ s : Pd × Rd × St × St × Hb × St × St × St × St × St × St × Int32 × Int32, K248 s = some () → G E X 11 [xo E ax (ap 0) (ad 0) (an 0) (am 0) (ah 0) ex5 ex6, pd E ap s.1, rd E ad s.2.1, sc E an s.2.2.1, sc E am s.2.2.2.1, hb E ah (ak0 0) (ak1 0) (ak2 0) (ak3 0) (ak4 0) (ak5 0) s.2.2.2.2.1, sc E ak0 s.2.2.2.2.2.1, sc E ak1 s.2.2.2.2.2.2.1, sc E ak2 s.2.2.2.2.2.2.2.1, sc E ak3 s.2.2.2.2.2.2.2.2.1, sc E ak4 s.2.2.2.2.2.2.2.2.2.1, sc E ak5 s.2.2.2.2.2.2.2.2.2.2.1, gu] k n [(0, .ref E.2.2.2.2.2.2.2.1), (1, .ref (ax 0)), (3, .int s.2.2.2.2.2.2.2.2.2.2.2.1), (4, .int s.2.2.2.2.2.2.2.2.2.2.2.2)] [] 248) : ∀ s : Pd × Rd × St × St × Hb × St × St × St × St × St × St, b_L_law_8 N ρ L xs K248 s = some () → G E X 11 [xo E ax (ap 0) (ad 0) (an 0) (am 0) (ah 0) ex5 ex6, pd E ap s.1, rd E ad s.2.1, sc E an s.2.2.1, sc E am s.2.2.2.1, hb E ah (ak0 0) (ak1 0) (ak2 0) (ak3 0) (ak4 0) (ak5 0) s.2.2.2.2.1, sc E ak0 s.2.2.2.2.2.1, sc E ak1 s.2.2.2.2.2.2.1, sc E ak2 s.2.2.2.2.2.2.2.1, sc E ak3 s.2.2.2.2.2.2.2.2.1, sc E ak4 s.2.2.2.2.2.2.2.2.2.1, sc E ak5 s.2.2.2.2.2.2.2.2.2.2, gu] k n [(0, .ref E.2.2.2.2.2.2.2.1), (1, .ref (ax 0))] [] 8 := by
  have hk0 : k + 0 ≤ room_1.cells := by show k ≤ 600000; omega
  have hn0 : n + 0 ≤ room_1.slots := by show n ≤ 7302250; omega
  have h244 : ∀ (K248 : (Pd × Rd × St × St × Hb × St × St × St × St × St × St × Int32 × Int32) → Option (Unit)), (∀ s : Pd × Rd × St × St × Hb × St × St × St × St × St × St × Int32 × Int32, K248 s = some () → G E X 11 [xo E ax (ap 0) (ad 0) (an 0) (am 0) (ah 0) ex5 ex6, pd E ap s.1, rd E ad s.2.1, sc E an s.2.2.1, sc E am s.2.2.2.1, hb E ah (ak0 0) (ak1 0) (ak2 0) (ak3 0) (ak4 0) (ak5 0) s.2.2.2.2.1, sc E ak0 s.2.2.2.2.2.1, sc E ak1 s.2.2.2.2.2.2.1, sc E ak2 s.2.2.2.2.2.2.2.1, sc E ak3 s.2.2.2.2.2.2.2.2.1, sc E ak4 s.2.2.2.2.2.2.2.2.2.1, sc E ak5 s.2.2.2.2.2.2.2.2.2.2.1, gu] k n [(0, .ref E.2.2.2.2.2.2.2.1), (1, .ref (ax 0)), (3, .int s.2.2.2.2.2.2.2.2.2.2.2.1), (4, .int s.2.2.2.2.2.2.2.2.2.2.2.2)] [] 248) → ∀ s : Pd × Rd × St × St × Hb × St × St × St × St × St × St × Int32, b_L_law_244 N ρ L xs K248 s = some () → G E X 11 [xo E ax (ap 0) (ad 0) (an 0) (am 0) (ah 0) ex5 ex6, pd E ap s.1, rd E ad s.2.1, sc E an s.2.2.1, sc E am s.2.2.2.1, hb E ah (ak0 0) (ak1 0) (ak2 0) (ak3 0) (ak4 0) (ak5 0) s.2.2.2.2.1, sc E ak0 s.2.2.2.2.2.1, sc E ak1 s.2.2.2.2.2.2.1, sc E ak2 s.2.2.2.2.2.2.2.1, sc E ak3 s.2.2.2.2.2.2.2.2.1, sc E ak4 s.2.2.2.2.2.2.2.2.2.1, sc E ak5 s.2.2.2.2.2.2.2.2.2.2.1, gu] k n [(0, .ref E.2.2.2.2.2.2.2.1), (1, .ref (ax 0))] [.int s.2.2.2.2.2.2.2.2.2.2.2] 244 := by
    intro K248 hK248 s hf
    unfold b_L_law_244 at hf
    refine g_istore_n (lv2 := [(3, .int s.2.2.2.2.2.2.2.2.2.2.2), (0, .ref E.2.2.2.2.2.2.2.1), (1, .ref (ax 0))]) C dL_law_244 rfl (by decide) rfl ?_
    refine g_iconst (v := (0 : Int32)) C dL_law_245 (by decide) ?_
    refine g_istore (lv2 := [(4, .int (0 : Int32)), (3, .int s.2.2.2.2.2.2.2.2.2.2.2), (0, .ref E.2.2.2.2.2.2.2.1), (1, .ref (ax 0))]) C dL_law_246 (by decide) rfl ?_
    refine g_sub (lv2 := [(0, .ref E.2.2.2.2.2.2.2.1), (1, .ref (ax 0)), (3, .int s.2.2.2.2.2.2.2.2.2.2.2), (4, .int (0 : Int32))]) [2, 3, 1, 0] rfl ?_
    exact hK248 (s.1, s.2.1, s.2.2.1, s.2.2.2.1, s.2.2.2.2.1, s.2.2.2.2.2.1, s.2.2.2.2.2.2.1, s.2.2.2.2.2.2.2.1, s.2.2.2.2.2.2.2.2.1, s.2.2.2.2.2.2.2.2.2.1, s.2.2.2.2.2.2.2.2.2.2.1, s.2.2.2.2.2.2.2.2.2.2.2, (0 : Int32)) hf
  have h243 : ∀ (K248 : (Pd × Rd × St × St × Hb × St × St × St × St × St × St × Int32 × Int32) → Option (Unit)), (∀ s : Pd × Rd × St × St × Hb × St × St × St × St × St × St × Int32 × Int32, K248 s = some () → G E X 11 [xo E ax (ap 0) (ad 0) (an 0) (am 0) (ah 0) ex5 ex6, pd E ap s.1, rd E ad s.2.1, sc E an s.2.2.1, sc E am s.2.2.2.1, hb E ah (ak0 0) (ak1 0) (ak2 0) (ak3 0) (ak4 0) (ak5 0) s.2.2.2.2.1, sc E ak0 s.2.2.2.2.2.1, sc E ak1 s.2.2.2.2.2.2.1, sc E ak2 s.2.2.2.2.2.2.2.1, sc E ak3 s.2.2.2.2.2.2.2.2.1, sc E ak4 s.2.2.2.2.2.2.2.2.2.1, sc E ak5 s.2.2.2.2.2.2.2.2.2.2.1, gu] k n [(0, .ref E.2.2.2.2.2.2.2.1), (1, .ref (ax 0)), (3, .int s.2.2.2.2.2.2.2.2.2.2.2.1), (4, .int s.2.2.2.2.2.2.2.2.2.2.2.2)] [] 248) → ∀ s : Pd × Rd × St × St × Hb × St × St × St × St × St × St, b_L_law_243 N ρ L xs K248 s = some () → G E X 11 [xo E ax (ap 0) (ad 0) (an 0) (am 0) (ah 0) ex5 ex6, pd E ap s.1, rd E ad s.2.1, sc E an s.2.2.1, sc E am s.2.2.2.1, hb E ah (ak0 0) (ak1 0) (ak2 0) (ak3 0) (ak4 0) (ak5 0) s.2.2.2.2.1, sc E ak0 s.2.2.2.2.2.1, sc E ak1 s.2.2.2.2.2.2.1, sc E ak2 s.2.2.2.2.2.2.2.1, sc E ak3 s.2.2.2.2.2.2.2.2.1, sc E ak4 s.2.2.2.2.2.2.2.2.2.1, sc E ak5 s.2.2.2.2.2.2.2.2.2.2, gu] k n [(0, .ref E.2.2.2.2.2.2.2.1), (1, .ref (ax 0))] [] 243 := by
    intro K248 hK248 s hf
    unfold b_L_law_243 at hf
    refine g_iconst (v := (0 : Int32)) C dL_law_243 (by decide) ?_
    exact h244 K248 hK248 (s.1, s.2.1, s.2.2.1, s.2.2.2.1, s.2.2.2.2.1, s.2.2.2.2.2.1, s.2.2.2.2.2.2.1, s.2.2.2.2.2.2.2.1, s.2.2.2.2.2.2.2.2.1, s.2.2.2.2.2.2.2.2.2.1, s.2.2.2.2.2.2.2.2.2.2, (0 : Int32)) hf
  have h166 : ∀ (K248 : (Pd × Rd × St × St × Hb × St × St × St × St × St × St × Int32 × Int32) → Option (Unit)), (∀ s : Pd × Rd × St × St × Hb × St × St × St × St × St × St × Int32 × Int32, K248 s = some () → G E X 11 [xo E ax (ap 0) (ad 0) (an 0) (am 0) (ah 0) ex5 ex6, pd E ap s.1, rd E ad s.2.1, sc E an s.2.2.1, sc E am s.2.2.2.1, hb E ah (ak0 0) (ak1 0) (ak2 0) (ak3 0) (ak4 0) (ak5 0) s.2.2.2.2.1, sc E ak0 s.2.2.2.2.2.1, sc E ak1 s.2.2.2.2.2.2.1, sc E ak2 s.2.2.2.2.2.2.2.1, sc E ak3 s.2.2.2.2.2.2.2.2.1, sc E ak4 s.2.2.2.2.2.2.2.2.2.1, sc E ak5 s.2.2.2.2.2.2.2.2.2.2.1, gu] k n [(0, .ref E.2.2.2.2.2.2.2.1), (1, .ref (ax 0)), (3, .int s.2.2.2.2.2.2.2.2.2.2.2.1), (4, .int s.2.2.2.2.2.2.2.2.2.2.2.2)] [] 248) → ∀ s : Pd × Rd × St × St × Hb × St × St × St × St × St × St × Int32 × Int32, b_L_law_166 N ρ L xs K248 s = some () → G E X 11 [xo E ax (ap 0) (ad 0) (an 0) (am 0) (ah 0) ex5 ex6, pd E ap s.1, rd E ad s.2.1, sc E an s.2.2.1, sc E am s.2.2.2.1, hb E ah (ak0 0) (ak1 0) (ak2 0) (ak3 0) (ak4 0) (ak5 0) s.2.2.2.2.1, sc E ak0 s.2.2.2.2.2.1, sc E ak1 s.2.2.2.2.2.2.1, sc E ak2 s.2.2.2.2.2.2.2.1, sc E ak3 s.2.2.2.2.2.2.2.2.1, sc E ak4 s.2.2.2.2.2.2.2.2.2.1, sc E ak5 s.2.2.2.2.2.2.2.2.2.2.1, gu] k n [(0, .ref E.2.2.2.2.2.2.2.1), (1, .ref (ax 0)), (2, .int s.2.2.2.2.2.2.2.2.2.2.2.1)] [.int s.2.2.2.2.2.2.2.2.2.2.2.2] 166 := by
    intro K248 hK248 s hf
    unfold b_L_law_166 at hf
    refine g_istore_n (lv2 := [(3, .int s.2.2.2.2.2.2.2.2.2.2.2.2), (0, .ref E.2.2.2.2.2.2.2.1), (1, .ref (ax 0)), (2, .int s.2.2.2.2.2.2.2.2.2.2.2.1)]) C dL_law_166 rfl (by decide) rfl ?_
    refine g_iload_n C dL_law_167 rfl 0 rfl ?_
    refine g_if_eq (tgt := 243) C dL_law_168 (by decide) (fun c125 => ?_) (fun c125 => ?_)
    · have hf := (f_if hf).1 c125
      refine g_sub (lv2 := [(0, .ref E.2.2.2.2.2.2.2.1), (1, .ref (ax 0))]) [1, 2] rfl ?_
      exact h243 K248 hK248 (s.1, s.2.1, s.2.2.1, s.2.2.2.1, s.2.2.2.2.1, s.2.2.2.2.2.1, s.2.2.2.2.2.2.1, s.2.2.2.2.2.2.2.1, s.2.2.2.2.2.2.2.2.1, s.2.2.2.2.2.2.2.2.2.1, s.2.2.2.2.2.2.2.2.2.2.1) hf
    · have hf := (f_if hf).2 c125
      refine g_aload_n C dL_law_171 rfl 2 rfl ?_
      refine g_iconst (v := (4 : Int32)) C dL_law_172 (by decide) ?_
      refine g_iconst (v := (1 : Int32)) C dL_law_173 (by decide) ?_
      refine g_iload_n C dL_law_174 rfl 3 rfl ?_
      refine g_bipush (v := (22 : Int32)) C dL_law_175 (by decide) ?_
      refine g_ishr C dL_law_177 ?_
      refine g_bipush (v := (9 : Int32)) C dL_law_178 (by decide) ?_
      obtain ⟨o126, hq127, hf⟩ := bind_s hf
      refine g_callS (As := [.int (s.2.2.2.2.2.2.2.2.2.2.2.1 >>> ((22 : Int32) &&& 31)), .int (9 : Int32)]) (rest := [.int (1 : Int32), .int (4 : Int32), .ref (ax 0)]) C k_L_low (fun l => c_L_low (E := E) hq127 l) mt_526 [] rfl (by decide) rfl (Nat.le_of_ble_eq_true rfl) ⟨Nat.le_of_ble_eq_true rfl, Nat.le_of_ble_eq_true rfl, hk0, hn0⟩ dL_law_180 ?_
      rintro _ _ ⟨rfl, rfl⟩
      show G E X 11 [xo E ax (ap 0) (ad 0) (an 0) (am 0) (ah 0) ex5 ex6, pd E ap s.1, rd E ad s.2.1, sc E an s.2.2.1, sc E am s.2.2.2.1, hb E ah (ak0 0) (ak1 0) (ak2 0) (ak3 0) (ak4 0) (ak5 0) s.2.2.2.2.1, sc E ak0 s.2.2.2.2.2.1, sc E ak1 s.2.2.2.2.2.2.1, sc E ak2 s.2.2.2.2.2.2.2.1, sc E ak3 s.2.2.2.2.2.2.2.2.1, sc E ak4 s.2.2.2.2.2.2.2.2.2.1, sc E ak5 s.2.2.2.2.2.2.2.2.2.2.1, gu] k n [(3, .int s.2.2.2.2.2.2.2.2.2.2.2.2), (0, .ref E.2.2.2.2.2.2.2.1), (1, .ref (ax 0)), (2, .int s.2.2.2.2.2.2.2.2.2.2.2.1)] [.int o126, .int (1 : Int32), .int (4 : Int32), .ref (ax 0)] 183
      refine g_iadd C dL_law_183 ?_
      obtain ⟨o128, hq129, hf⟩ := bind_s hf
      refine g_callV (As := [.int (4 : Int32), .int ((1 : Int32) + o126)]) (rest := []) C k_X5_set (fun l => c_X5_set (E := E) (ax := ax) (ex0 := (ap 0)) (ex1 := (ad 0)) (ex3 := (am 0)) (ex5 := ex5) (ex6 := ex6) (an := an) (Vn := s.2.2.1) (ah := ah) (Vh := s.2.2.2.2.1) (ak0 := ak0) (Vk0 := s.2.2.2.2.2.1) (ak1 := ak1) (Vk1 := s.2.2.2.2.2.2.1) (ak2 := ak2) (Vk2 := s.2.2.2.2.2.2.2.1) (ak3 := ak3) (Vk3 := s.2.2.2.2.2.2.2.2.1) (ak4 := ak4) (Vk4 := s.2.2.2.2.2.2.2.2.2.1) (ak5 := ak5) (Vk5 := s.2.2.2.2.2.2.2.2.2.2.1) hq129 l) mt_319 [0, 3, 5, 6, 7, 8, 9, 10, 11] rfl (by decide) ⟨_, _, _, _, List.mem_flatten.mpr ⟨_, List.mem_of_getElem? (i := 0) rfl, List.mem_of_getElem? (i := 0) rfl⟩, rfl⟩ rfl (Nat.le_of_ble_eq_true rfl) ⟨Nat.le_of_ble_eq_true rfl, Nat.le_of_ble_eq_true rfl, hk0, hn0⟩ dL_law_184 ?_
      rintro _ _ ⟨rfl, rfl⟩
      show G E X 11 [xo E ax (ap 0) (ad 0) (an 0) (am 0) (ah 0) ex5 ex6, pd E ap s.1, rd E ad s.2.1, sc E an o128.2.1, sc E am s.2.2.2.1, hb E ah (ak0 0) (ak1 0) (ak2 0) (ak3 0) (ak4 0) (ak5 0) o128.2.2.1, sc E ak0 o128.2.2.2.1, sc E ak1 o128.2.2.2.2.1, sc E ak2 o128.2.2.2.2.2.1, sc E ak3 o128.2.2.2.2.2.2.1, sc E ak4 o128.2.2.2.2.2.2.2.1, sc E ak5 o128.2.2.2.2.2.2.2.2, gu] k n [(3, .int s.2.2.2.2.2.2.2.2.2.2.2.2), (0, .ref E.2.2.2.2.2.2.2.1), (1, .ref (ax 0)), (2, .int s.2.2.2.2.2.2.2.2.2.2.2.1)] [.int o128.1] 187
      refine g_iconst (v := (5 : Int32)) C dL_law_187 (by decide) ?_
      refine g_icmp_ne (tgt := 243) C dL_law_188 (by decide) (fun c130 => ?_) (fun c130 => ?_)
      · have hf := (f_if hf).2 c130
        refine g_sub (lv2 := [(0, .ref E.2.2.2.2.2.2.2.1), (1, .ref (ax 0))]) [1, 2] rfl ?_
        exact h243 K248 hK248 (s.1, s.2.1, o128.2.1, s.2.2.2.1, o128.2.2.1, o128.2.2.2.1, o128.2.2.2.2.1, o128.2.2.2.2.2.1, o128.2.2.2.2.2.2.1, o128.2.2.2.2.2.2.2.1, o128.2.2.2.2.2.2.2.2) hf
      · have hf := (f_if hf).1 c130
        refine g_aload_n C dL_law_191 rfl 2 rfl ?_
        refine g_iconst (v := (5 : Int32)) C dL_law_192 (by decide) ?_
        refine g_iconst (v := (1 : Int32)) C dL_law_193 (by decide) ?_
        refine g_aload_n C dL_law_194 rfl 1 rfl ?_
        refine g_iconst (v := (1 : Int32)) C dL_law_195 (by decide) ?_
        obtain ⟨o131, hq132, hf⟩ := bind_s hf
        refine g_callS (As := [.ref E.2.2.2.2.2.2.2.1, .int (1 : Int32)]) (rest := [.int (1 : Int32), .int (5 : Int32), .ref (ax 0)]) C k_L_cell (fun l => c_L_cell (E := E) (L := L) (xs := xs) hsL hsx hq132 l) mt_521 [] rfl (by decide) rfl (Nat.le_of_ble_eq_true rfl) ⟨Nat.le_of_ble_eq_true rfl, Nat.le_of_ble_eq_true rfl, hk0, hn0⟩ dL_law_196 ?_
        rintro _ _ ⟨rfl, rfl⟩
        show G E X 11 [xo E ax (ap 0) (ad 0) (an 0) (am 0) (ah 0) ex5 ex6, pd E ap s.1, rd E ad s.2.1, sc E an o128.2.1, sc E am s.2.2.2.1, hb E ah (ak0 0) (ak1 0) (ak2 0) (ak3 0) (ak4 0) (ak5 0) o128.2.2.1, sc E ak0 o128.2.2.2.1, sc E ak1 o128.2.2.2.2.1, sc E ak2 o128.2.2.2.2.2.1, sc E ak3 o128.2.2.2.2.2.2.1, sc E ak4 o128.2.2.2.2.2.2.2.1, sc E ak5 o128.2.2.2.2.2.2.2.2, gu] k n [(3, .int s.2.2.2.2.2.2.2.2.2.2.2.2), (0, .ref E.2.2.2.2.2.2.2.1), (1, .ref (ax 0)), (2, .int s.2.2.2.2.2.2.2.2.2.2.2.1)] [.int o131, .int (1 : Int32), .int (5 : Int32), .ref (ax 0)] 199
        refine g_sipush (v := (300 : Int32)) C dL_law_199 (by decide) ?_
        obtain ⟨o133, hq134, hf⟩ := bind_s hf
        refine g_callS (As := [.int o131, .int (300 : Int32)]) (rest := [.int (1 : Int32), .int (5 : Int32), .ref (ax 0)]) C k_L_low (fun l => c_L_low (E := E) hq134 l) mt_526 [] rfl (by decide) rfl (Nat.le_of_ble_eq_true rfl) ⟨Nat.le_of_ble_eq_true rfl, Nat.le_of_ble_eq_true rfl, hk0, hn0⟩ dL_law_202 ?_
        rintro _ _ ⟨rfl, rfl⟩
        show G E X 11 [xo E ax (ap 0) (ad 0) (an 0) (am 0) (ah 0) ex5 ex6, pd E ap s.1, rd E ad s.2.1, sc E an o128.2.1, sc E am s.2.2.2.1, hb E ah (ak0 0) (ak1 0) (ak2 0) (ak3 0) (ak4 0) (ak5 0) o128.2.2.1, sc E ak0 o128.2.2.2.1, sc E ak1 o128.2.2.2.2.1, sc E ak2 o128.2.2.2.2.2.1, sc E ak3 o128.2.2.2.2.2.2.1, sc E ak4 o128.2.2.2.2.2.2.2.1, sc E ak5 o128.2.2.2.2.2.2.2.2, gu] k n [(3, .int s.2.2.2.2.2.2.2.2.2.2.2.2), (0, .ref E.2.2.2.2.2.2.2.1), (1, .ref (ax 0)), (2, .int s.2.2.2.2.2.2.2.2.2.2.2.1)] [.int o133, .int (1 : Int32), .int (5 : Int32), .ref (ax 0)] 205
        refine g_iadd C dL_law_205 ?_
        obtain ⟨o135, hq136, hf⟩ := bind_s hf
        refine g_callV (As := [.int (5 : Int32), .int ((1 : Int32) + o133)]) (rest := []) C k_X5_set (fun l => c_X5_set (E := E) (ax := ax) (ex0 := (ap 0)) (ex1 := (ad 0)) (ex3 := (am 0)) (ex5 := ex5) (ex6 := ex6) (an := an) (Vn := o128.2.1) (ah := ah) (Vh := o128.2.2.1) (ak0 := ak0) (Vk0 := o128.2.2.2.1) (ak1 := ak1) (Vk1 := o128.2.2.2.2.1) (ak2 := ak2) (Vk2 := o128.2.2.2.2.2.1) (ak3 := ak3) (Vk3 := o128.2.2.2.2.2.2.1) (ak4 := ak4) (Vk4 := o128.2.2.2.2.2.2.2.1) (ak5 := ak5) (Vk5 := o128.2.2.2.2.2.2.2.2) hq136 l) mt_319 [0, 3, 5, 6, 7, 8, 9, 10, 11] rfl (by decide) ⟨_, _, _, _, List.mem_flatten.mpr ⟨_, List.mem_of_getElem? (i := 0) rfl, List.mem_of_getElem? (i := 0) rfl⟩, rfl⟩ rfl (Nat.le_of_ble_eq_true rfl) ⟨Nat.le_of_ble_eq_true rfl, Nat.le_of_ble_eq_true rfl, hk0, hn0⟩ dL_law_206 ?_
        rintro _ _ ⟨rfl, rfl⟩
        show G E X 11 [xo E ax (ap 0) (ad 0) (an 0) (am 0) (ah 0) ex5 ex6, pd E ap s.1, rd E ad s.2.1, sc E an o135.2.1, sc E am s.2.2.2.1, hb E ah (ak0 0) (ak1 0) (ak2 0) (ak3 0) (ak4 0) (ak5 0) o135.2.2.1, sc E ak0 o135.2.2.2.1, sc E ak1 o135.2.2.2.2.1, sc E ak2 o135.2.2.2.2.2.1, sc E ak3 o135.2.2.2.2.2.2.1, sc E ak4 o135.2.2.2.2.2.2.2.1, sc E ak5 o135.2.2.2.2.2.2.2.2, gu] k n [(3, .int s.2.2.2.2.2.2.2.2.2.2.2.2), (0, .ref E.2.2.2.2.2.2.2.1), (1, .ref (ax 0)), (2, .int s.2.2.2.2.2.2.2.2.2.2.2.1)] [.int o135.1] 209
        refine g_bipush (v := (100 : Int32)) C dL_law_209 (by decide) ?_
        refine g_icmp_ne (tgt := 243) C dL_law_211 (by decide) (fun c137 => ?_) (fun c137 => ?_)
        · have hf := (f_if hf).2 c137
          refine g_sub (lv2 := [(0, .ref E.2.2.2.2.2.2.2.1), (1, .ref (ax 0))]) [1, 2] rfl ?_
          exact h243 K248 hK248 (s.1, s.2.1, o135.2.1, s.2.2.2.1, o135.2.2.1, o135.2.2.2.1, o135.2.2.2.2.1, o135.2.2.2.2.2.1, o135.2.2.2.2.2.2.1, o135.2.2.2.2.2.2.2.1, o135.2.2.2.2.2.2.2.2) hf
        · have hf := (f_if hf).1 c137
          refine g_aload_n C dL_law_214 rfl 2 rfl ?_
          refine g_bipush (v := (6 : Int32)) C dL_law_215 (by decide) ?_
          refine g_iconst (v := (1 : Int32)) C dL_law_217 (by decide) ?_
          refine g_aload_n C dL_law_218 rfl 1 rfl ?_
          refine g_iconst (v := (2 : Int32)) C dL_law_219 (by decide) ?_
          obtain ⟨o138, hq139, hf⟩ := bind_s hf
          refine g_callS (As := [.ref E.2.2.2.2.2.2.2.1, .int (2 : Int32)]) (rest := [.int (1 : Int32), .int (6 : Int32), .ref (ax 0)]) C k_L_cell (fun l => c_L_cell (E := E) (L := L) (xs := xs) hsL hsx hq139 l) mt_521 [] rfl (by decide) rfl (Nat.le_of_ble_eq_true rfl) ⟨Nat.le_of_ble_eq_true rfl, Nat.le_of_ble_eq_true rfl, hk0, hn0⟩ dL_law_220 ?_
          rintro _ _ ⟨rfl, rfl⟩
          show G E X 11 [xo E ax (ap 0) (ad 0) (an 0) (am 0) (ah 0) ex5 ex6, pd E ap s.1, rd E ad s.2.1, sc E an o135.2.1, sc E am s.2.2.2.1, hb E ah (ak0 0) (ak1 0) (ak2 0) (ak3 0) (ak4 0) (ak5 0) o135.2.2.1, sc E ak0 o135.2.2.2.1, sc E ak1 o135.2.2.2.2.1, sc E ak2 o135.2.2.2.2.2.1, sc E ak3 o135.2.2.2.2.2.2.1, sc E ak4 o135.2.2.2.2.2.2.2.1, sc E ak5 o135.2.2.2.2.2.2.2.2, gu] k n [(3, .int s.2.2.2.2.2.2.2.2.2.2.2.2), (0, .ref E.2.2.2.2.2.2.2.1), (1, .ref (ax 0)), (2, .int s.2.2.2.2.2.2.2.2.2.2.2.1)] [.int o138, .int (1 : Int32), .int (6 : Int32), .ref (ax 0)] 223
          refine g_sipush (v := (1500 : Int32)) C dL_law_223 (by decide) ?_
          obtain ⟨o140, hq141, hf⟩ := bind_s hf
          refine g_callS (As := [.int o138, .int (1500 : Int32)]) (rest := [.int (1 : Int32), .int (6 : Int32), .ref (ax 0)]) C k_L_low (fun l => c_L_low (E := E) hq141 l) mt_526 [] rfl (by decide) rfl (Nat.le_of_ble_eq_true rfl) ⟨Nat.le_of_ble_eq_true rfl, Nat.le_of_ble_eq_true rfl, hk0, hn0⟩ dL_law_226 ?_
          rintro _ _ ⟨rfl, rfl⟩
          show G E X 11 [xo E ax (ap 0) (ad 0) (an 0) (am 0) (ah 0) ex5 ex6, pd E ap s.1, rd E ad s.2.1, sc E an o135.2.1, sc E am s.2.2.2.1, hb E ah (ak0 0) (ak1 0) (ak2 0) (ak3 0) (ak4 0) (ak5 0) o135.2.2.1, sc E ak0 o135.2.2.2.1, sc E ak1 o135.2.2.2.2.1, sc E ak2 o135.2.2.2.2.2.1, sc E ak3 o135.2.2.2.2.2.2.1, sc E ak4 o135.2.2.2.2.2.2.2.1, sc E ak5 o135.2.2.2.2.2.2.2.2, gu] k n [(3, .int s.2.2.2.2.2.2.2.2.2.2.2.2), (0, .ref E.2.2.2.2.2.2.2.1), (1, .ref (ax 0)), (2, .int s.2.2.2.2.2.2.2.2.2.2.2.1)] [.int o140, .int (1 : Int32), .int (6 : Int32), .ref (ax 0)] 229
          refine g_iadd C dL_law_229 ?_
          obtain ⟨o142, hq143, hf⟩ := bind_s hf
          refine g_callV (As := [.int (6 : Int32), .int ((1 : Int32) + o140)]) (rest := []) C k_X5_set (fun l => c_X5_set (E := E) (ax := ax) (ex0 := (ap 0)) (ex1 := (ad 0)) (ex3 := (am 0)) (ex5 := ex5) (ex6 := ex6) (an := an) (Vn := o135.2.1) (ah := ah) (Vh := o135.2.2.1) (ak0 := ak0) (Vk0 := o135.2.2.2.1) (ak1 := ak1) (Vk1 := o135.2.2.2.2.1) (ak2 := ak2) (Vk2 := o135.2.2.2.2.2.1) (ak3 := ak3) (Vk3 := o135.2.2.2.2.2.2.1) (ak4 := ak4) (Vk4 := o135.2.2.2.2.2.2.2.1) (ak5 := ak5) (Vk5 := o135.2.2.2.2.2.2.2.2) hq143 l) mt_319 [0, 3, 5, 6, 7, 8, 9, 10, 11] rfl (by decide) ⟨_, _, _, _, List.mem_flatten.mpr ⟨_, List.mem_of_getElem? (i := 0) rfl, List.mem_of_getElem? (i := 0) rfl⟩, rfl⟩ rfl (Nat.le_of_ble_eq_true rfl) ⟨Nat.le_of_ble_eq_true rfl, Nat.le_of_ble_eq_true rfl, hk0, hn0⟩ dL_law_230 ?_
          rintro _ _ ⟨rfl, rfl⟩
          show G E X 11 [xo E ax (ap 0) (ad 0) (an 0) (am 0) (ah 0) ex5 ex6, pd E ap s.1, rd E ad s.2.1, sc E an o142.2.1, sc E am s.2.2.2.1, hb E ah (ak0 0) (ak1 0) (ak2 0) (ak3 0) (ak4 0) (ak5 0) o142.2.2.1, sc E ak0 o142.2.2.2.1, sc E ak1 o142.2.2.2.2.1, sc E ak2 o142.2.2.2.2.2.1, sc E ak3 o142.2.2.2.2.2.2.1, sc E ak4 o142.2.2.2.2.2.2.2.1, sc E ak5 o142.2.2.2.2.2.2.2.2, gu] k n [(3, .int s.2.2.2.2.2.2.2.2.2.2.2.2), (0, .ref E.2.2.2.2.2.2.2.1), (1, .ref (ax 0)), (2, .int s.2.2.2.2.2.2.2.2.2.2.2.1)] [.int o142.1] 233
          refine g_sipush (v := (800 : Int32)) C dL_law_233 (by decide) ?_
          refine g_icmp_ne (tgt := 243) C dL_law_236 (by decide) (fun c144 => ?_) (fun c144 => ?_)
          · have hf := (f_if hf).2 c144
            refine g_sub (lv2 := [(0, .ref E.2.2.2.2.2.2.2.1), (1, .ref (ax 0))]) [1, 2] rfl ?_
            exact h243 K248 hK248 (s.1, s.2.1, o142.2.1, s.2.2.2.1, o142.2.2.1, o142.2.2.2.1, o142.2.2.2.2.1, o142.2.2.2.2.2.1, o142.2.2.2.2.2.2.1, o142.2.2.2.2.2.2.2.1, o142.2.2.2.2.2.2.2.2) hf
          · have hf := (f_if hf).1 c144
            refine g_iconst (v := (1 : Int32)) C dL_law_239 (by decide) ?_
            refine g_goto (tgt := 244) C dL_law_240 (by decide) ?_
            refine g_sub (lv2 := [(0, .ref E.2.2.2.2.2.2.2.1), (1, .ref (ax 0))]) [1, 2] rfl ?_
            exact h244 K248 hK248 (s.1, s.2.1, o142.2.1, s.2.2.2.1, o142.2.2.1, o142.2.2.2.1, o142.2.2.2.2.1, o142.2.2.2.2.2.1, o142.2.2.2.2.2.2.1, o142.2.2.2.2.2.2.2.1, o142.2.2.2.2.2.2.2.2, (1 : Int32)) hf
  have h165 : ∀ (K248 : (Pd × Rd × St × St × Hb × St × St × St × St × St × St × Int32 × Int32) → Option (Unit)), (∀ s : Pd × Rd × St × St × Hb × St × St × St × St × St × St × Int32 × Int32, K248 s = some () → G E X 11 [xo E ax (ap 0) (ad 0) (an 0) (am 0) (ah 0) ex5 ex6, pd E ap s.1, rd E ad s.2.1, sc E an s.2.2.1, sc E am s.2.2.2.1, hb E ah (ak0 0) (ak1 0) (ak2 0) (ak3 0) (ak4 0) (ak5 0) s.2.2.2.2.1, sc E ak0 s.2.2.2.2.2.1, sc E ak1 s.2.2.2.2.2.2.1, sc E ak2 s.2.2.2.2.2.2.2.1, sc E ak3 s.2.2.2.2.2.2.2.2.1, sc E ak4 s.2.2.2.2.2.2.2.2.2.1, sc E ak5 s.2.2.2.2.2.2.2.2.2.2.1, gu] k n [(0, .ref E.2.2.2.2.2.2.2.1), (1, .ref (ax 0)), (3, .int s.2.2.2.2.2.2.2.2.2.2.2.1), (4, .int s.2.2.2.2.2.2.2.2.2.2.2.2)] [] 248) → ∀ s : Pd × Rd × St × St × Hb × St × St × St × St × St × St × Int32, b_L_law_165 N ρ L xs K248 s = some () → G E X 11 [xo E ax (ap 0) (ad 0) (an 0) (am 0) (ah 0) ex5 ex6, pd E ap s.1, rd E ad s.2.1, sc E an s.2.2.1, sc E am s.2.2.2.1, hb E ah (ak0 0) (ak1 0) (ak2 0) (ak3 0) (ak4 0) (ak5 0) s.2.2.2.2.1, sc E ak0 s.2.2.2.2.2.1, sc E ak1 s.2.2.2.2.2.2.1, sc E ak2 s.2.2.2.2.2.2.2.1, sc E ak3 s.2.2.2.2.2.2.2.2.1, sc E ak4 s.2.2.2.2.2.2.2.2.2.1, sc E ak5 s.2.2.2.2.2.2.2.2.2.2.1, gu] k n [(0, .ref E.2.2.2.2.2.2.2.1), (1, .ref (ax 0)), (2, .int s.2.2.2.2.2.2.2.2.2.2.2)] [] 165 := by
    intro K248 hK248 s hf
    unfold b_L_law_165 at hf
    refine g_iconst (v := (0 : Int32)) C dL_law_165 (by decide) ?_
    exact h166 K248 hK248 (s.1, s.2.1, s.2.2.1, s.2.2.2.1, s.2.2.2.2.1, s.2.2.2.2.2.1, s.2.2.2.2.2.2.1, s.2.2.2.2.2.2.2.1, s.2.2.2.2.2.2.2.2.1, s.2.2.2.2.2.2.2.2.2.1, s.2.2.2.2.2.2.2.2.2.2.1, s.2.2.2.2.2.2.2.2.2.2.2, (0 : Int32)) hf
  have h71 : ∀ (K248 : (Pd × Rd × St × St × Hb × St × St × St × St × St × St × Int32 × Int32) → Option (Unit)), (∀ s : Pd × Rd × St × St × Hb × St × St × St × St × St × St × Int32 × Int32, K248 s = some () → G E X 11 [xo E ax (ap 0) (ad 0) (an 0) (am 0) (ah 0) ex5 ex6, pd E ap s.1, rd E ad s.2.1, sc E an s.2.2.1, sc E am s.2.2.2.1, hb E ah (ak0 0) (ak1 0) (ak2 0) (ak3 0) (ak4 0) (ak5 0) s.2.2.2.2.1, sc E ak0 s.2.2.2.2.2.1, sc E ak1 s.2.2.2.2.2.2.1, sc E ak2 s.2.2.2.2.2.2.2.1, sc E ak3 s.2.2.2.2.2.2.2.2.1, sc E ak4 s.2.2.2.2.2.2.2.2.2.1, sc E ak5 s.2.2.2.2.2.2.2.2.2.2.1, gu] k n [(0, .ref E.2.2.2.2.2.2.2.1), (1, .ref (ax 0)), (3, .int s.2.2.2.2.2.2.2.2.2.2.2.1), (4, .int s.2.2.2.2.2.2.2.2.2.2.2.2)] [] 248) → ∀ s : Pd × Rd × St × St × Hb × St × St × St × St × St × St, b_L_law_71 N ρ L xs K248 s = some () → G E X 11 [xo E ax (ap 0) (ad 0) (an 0) (am 0) (ah 0) ex5 ex6, pd E ap s.1, rd E ad s.2.1, sc E an s.2.2.1, sc E am s.2.2.2.1, hb E ah (ak0 0) (ak1 0) (ak2 0) (ak3 0) (ak4 0) (ak5 0) s.2.2.2.2.1, sc E ak0 s.2.2.2.2.2.1, sc E ak1 s.2.2.2.2.2.2.1, sc E ak2 s.2.2.2.2.2.2.2.1, sc E ak3 s.2.2.2.2.2.2.2.2.1, sc E ak4 s.2.2.2.2.2.2.2.2.2.1, sc E ak5 s.2.2.2.2.2.2.2.2.2.2, gu] k n [] [] 71 := by
    intro K248 hK248 s hf
    unfold b_L_law_71 at hf
    refine g_iconst (v := (0 : Int32)) C dL_law_71 (by decide) ?_
    exact g_lawret C hLx hk hn dL_law_72 (if1 hf)
  have h8 : ∀ (K248 : (Pd × Rd × St × St × Hb × St × St × St × St × St × St × Int32 × Int32) → Option (Unit)), (∀ s : Pd × Rd × St × St × Hb × St × St × St × St × St × St × Int32 × Int32, K248 s = some () → G E X 11 [xo E ax (ap 0) (ad 0) (an 0) (am 0) (ah 0) ex5 ex6, pd E ap s.1, rd E ad s.2.1, sc E an s.2.2.1, sc E am s.2.2.2.1, hb E ah (ak0 0) (ak1 0) (ak2 0) (ak3 0) (ak4 0) (ak5 0) s.2.2.2.2.1, sc E ak0 s.2.2.2.2.2.1, sc E ak1 s.2.2.2.2.2.2.1, sc E ak2 s.2.2.2.2.2.2.2.1, sc E ak3 s.2.2.2.2.2.2.2.2.1, sc E ak4 s.2.2.2.2.2.2.2.2.2.1, sc E ak5 s.2.2.2.2.2.2.2.2.2.2.1, gu] k n [(0, .ref E.2.2.2.2.2.2.2.1), (1, .ref (ax 0)), (3, .int s.2.2.2.2.2.2.2.2.2.2.2.1), (4, .int s.2.2.2.2.2.2.2.2.2.2.2.2)] [] 248) → ∀ s : Pd × Rd × St × St × Hb × St × St × St × St × St × St, b_L_law_8 N ρ L xs K248 s = some () → G E X 11 [xo E ax (ap 0) (ad 0) (an 0) (am 0) (ah 0) ex5 ex6, pd E ap s.1, rd E ad s.2.1, sc E an s.2.2.1, sc E am s.2.2.2.1, hb E ah (ak0 0) (ak1 0) (ak2 0) (ak3 0) (ak4 0) (ak5 0) s.2.2.2.2.1, sc E ak0 s.2.2.2.2.2.1, sc E ak1 s.2.2.2.2.2.2.1, sc E ak2 s.2.2.2.2.2.2.2.1, sc E ak3 s.2.2.2.2.2.2.2.2.1, sc E ak4 s.2.2.2.2.2.2.2.2.2.1, sc E ak5 s.2.2.2.2.2.2.2.2.2.2, gu] k n [(0, .ref E.2.2.2.2.2.2.2.1), (1, .ref (ax 0))] [] 8 := by
    intro K248 hK248 s hf
    unfold b_L_law_8 at hf
    refine g_aload_n C dL_law_8 rfl 1 rfl ?_
    refine g_iconst (v := (0 : Int32)) C dL_law_9 (by decide) ?_
    obtain ⟨R145, hq147, hf⟩ := bind_s hf
    obtain ⟨b146, ghq147⟩ := hgu _ _ hq147
    obtain ⟨o148, hq149, hf⟩ := bind_s hf
    refine g_callV (As := [.int (0 : Int32)]) (rest := []) C k_X5_rule (fun l => c_X5_rule (E := E) (ax := ax) (ex0 := (ap 0)) (ex1 := (ad 0)) (ex3 := (am 0)) (ex4 := (ah 0)) (ex5 := ex5) (ex6 := ex6) (an := an) (Vn := s.2.2.1) (gu := gu) (bu := b146) (Ru := R145) ghq147 hq149 l) mt_437 [0, 3, 12] rfl (by decide) ⟨_, _, _, _, List.mem_flatten.mpr ⟨_, List.mem_of_getElem? (i := 0) rfl, List.mem_of_getElem? (i := 0) rfl⟩, rfl⟩ rfl (Nat.le_of_ble_eq_true rfl) ⟨Nat.le_of_ble_eq_true rfl, Nat.le_of_ble_eq_true rfl, hk0, hn0⟩ dL_law_10 ?_
    rintro _ _ ⟨rfl, rfl⟩
    show G E X 11 [xo E ax (ap 0) (ad 0) (an 0) (am 0) (ah 0) ex5 ex6, pd E ap s.1, rd E ad s.2.1, sc E an s.2.2.1, sc E am s.2.2.2.1, hb E ah (ak0 0) (ak1 0) (ak2 0) (ak3 0) (ak4 0) (ak5 0) s.2.2.2.2.1, sc E ak0 s.2.2.2.2.2.1, sc E ak1 s.2.2.2.2.2.2.1, sc E ak2 s.2.2.2.2.2.2.2.1, sc E ak3 s.2.2.2.2.2.2.2.2.1, sc E ak4 s.2.2.2.2.2.2.2.2.2.1, sc E ak5 s.2.2.2.2.2.2.2.2.2.2, gu] k n [(0, .ref E.2.2.2.2.2.2.2.1), (1, .ref (ax 0))] [.int o148] 13
    refine g_bipush (v := (7 : Int32)) C dL_law_13 (by decide) ?_
    refine g_icmp_ne (tgt := 71) C dL_law_15 (by decide) (fun c150 => ?_) (fun c150 => ?_)
    · have hf := (f_if hf).2 c150
      refine g_sub (lv2 := []) [] rfl ?_
      exact h71 K248 hK248 (s.1, s.2.1, s.2.2.1, s.2.2.2.1, s.2.2.2.2.1, s.2.2.2.2.2.1, s.2.2.2.2.2.2.1, s.2.2.2.2.2.2.2.1, s.2.2.2.2.2.2.2.2.1, s.2.2.2.2.2.2.2.2.2.1, s.2.2.2.2.2.2.2.2.2.2) hf
    · have hf := (f_if hf).1 c150
      refine g_aload_n C dL_law_18 rfl 1 rfl ?_
      refine g_iconst (v := (1 : Int32)) C dL_law_19 (by decide) ?_
      obtain ⟨R151, hq153, hf⟩ := bind_s hf
      obtain ⟨b152, ghq153⟩ := hgu _ _ hq153
      obtain ⟨o154, hq155, hf⟩ := bind_s hf
      refine g_callV (As := [.int (1 : Int32)]) (rest := []) C k_X5_rule (fun l => c_X5_rule (E := E) (ax := ax) (ex0 := (ap 0)) (ex1 := (ad 0)) (ex3 := (am 0)) (ex4 := (ah 0)) (ex5 := ex5) (ex6 := ex6) (an := an) (Vn := s.2.2.1) (gu := gu) (bu := b152) (Ru := R151) ghq153 hq155 l) mt_437 [0, 3, 12] rfl (by decide) ⟨_, _, _, _, List.mem_flatten.mpr ⟨_, List.mem_of_getElem? (i := 0) rfl, List.mem_of_getElem? (i := 0) rfl⟩, rfl⟩ rfl (Nat.le_of_ble_eq_true rfl) ⟨Nat.le_of_ble_eq_true rfl, Nat.le_of_ble_eq_true rfl, hk0, hn0⟩ dL_law_20 ?_
      rintro _ _ ⟨rfl, rfl⟩
      show G E X 11 [xo E ax (ap 0) (ad 0) (an 0) (am 0) (ah 0) ex5 ex6, pd E ap s.1, rd E ad s.2.1, sc E an s.2.2.1, sc E am s.2.2.2.1, hb E ah (ak0 0) (ak1 0) (ak2 0) (ak3 0) (ak4 0) (ak5 0) s.2.2.2.2.1, sc E ak0 s.2.2.2.2.2.1, sc E ak1 s.2.2.2.2.2.2.1, sc E ak2 s.2.2.2.2.2.2.2.1, sc E ak3 s.2.2.2.2.2.2.2.2.1, sc E ak4 s.2.2.2.2.2.2.2.2.2.1, sc E ak5 s.2.2.2.2.2.2.2.2.2.2, gu] k n [(0, .ref E.2.2.2.2.2.2.2.1), (1, .ref (ax 0))] [.int o154] 23
      refine g_iconst (v := (4 : Int32)) C dL_law_23 (by decide) ?_
      refine g_icmp_ne (tgt := 71) C dL_law_24 (by decide) (fun c156 => ?_) (fun c156 => ?_)
      · have hf := (f_if hf).2 c156
        refine g_sub (lv2 := []) [] rfl ?_
        exact h71 K248 hK248 (s.1, s.2.1, s.2.2.1, s.2.2.2.1, s.2.2.2.2.1, s.2.2.2.2.2.1, s.2.2.2.2.2.2.1, s.2.2.2.2.2.2.2.1, s.2.2.2.2.2.2.2.2.1, s.2.2.2.2.2.2.2.2.2.1, s.2.2.2.2.2.2.2.2.2.2) hf
      · have hf := (f_if hf).1 c156
        refine g_aload_n C dL_law_27 rfl 1 rfl ?_
        refine g_iconst (v := (2 : Int32)) C dL_law_28 (by decide) ?_
        obtain ⟨R157, hq159, hf⟩ := bind_s hf
        obtain ⟨b158, ghq159⟩ := hgu _ _ hq159
        obtain ⟨o160, hq161, hf⟩ := bind_s hf
        refine g_callV (As := [.int (2 : Int32)]) (rest := []) C k_X5_rule (fun l => c_X5_rule (E := E) (ax := ax) (ex0 := (ap 0)) (ex1 := (ad 0)) (ex3 := (am 0)) (ex4 := (ah 0)) (ex5 := ex5) (ex6 := ex6) (an := an) (Vn := s.2.2.1) (gu := gu) (bu := b158) (Ru := R157) ghq159 hq161 l) mt_437 [0, 3, 12] rfl (by decide) ⟨_, _, _, _, List.mem_flatten.mpr ⟨_, List.mem_of_getElem? (i := 0) rfl, List.mem_of_getElem? (i := 0) rfl⟩, rfl⟩ rfl (Nat.le_of_ble_eq_true rfl) ⟨Nat.le_of_ble_eq_true rfl, Nat.le_of_ble_eq_true rfl, hk0, hn0⟩ dL_law_29 ?_
        rintro _ _ ⟨rfl, rfl⟩
        show G E X 11 [xo E ax (ap 0) (ad 0) (an 0) (am 0) (ah 0) ex5 ex6, pd E ap s.1, rd E ad s.2.1, sc E an s.2.2.1, sc E am s.2.2.2.1, hb E ah (ak0 0) (ak1 0) (ak2 0) (ak3 0) (ak4 0) (ak5 0) s.2.2.2.2.1, sc E ak0 s.2.2.2.2.2.1, sc E ak1 s.2.2.2.2.2.2.1, sc E ak2 s.2.2.2.2.2.2.2.1, sc E ak3 s.2.2.2.2.2.2.2.2.1, sc E ak4 s.2.2.2.2.2.2.2.2.2.1, sc E ak5 s.2.2.2.2.2.2.2.2.2.2, gu] k n [(0, .ref E.2.2.2.2.2.2.2.1), (1, .ref (ax 0))] [.int o160] 32
        refine g_if_ne (tgt := 71) C dL_law_32 (by decide) (fun c162 => ?_) (fun c162 => ?_)
        · have hf := (f_if hf).2 c162
          refine g_sub (lv2 := []) [] rfl ?_
          exact h71 K248 hK248 (s.1, s.2.1, s.2.2.1, s.2.2.2.1, s.2.2.2.2.1, s.2.2.2.2.2.1, s.2.2.2.2.2.2.1, s.2.2.2.2.2.2.2.1, s.2.2.2.2.2.2.2.2.1, s.2.2.2.2.2.2.2.2.2.1, s.2.2.2.2.2.2.2.2.2.2) hf
        · have hf := (f_if hf).1 c162
          refine g_aload_n C dL_law_35 rfl 1 rfl ?_
          refine g_iconst (v := (3 : Int32)) C dL_law_36 (by decide) ?_
          obtain ⟨R163, hq165, hf⟩ := bind_s hf
          obtain ⟨b164, ghq165⟩ := hgu _ _ hq165
          obtain ⟨o166, hq167, hf⟩ := bind_s hf
          refine g_callV (As := [.int (3 : Int32)]) (rest := []) C k_X5_rule (fun l => c_X5_rule (E := E) (ax := ax) (ex0 := (ap 0)) (ex1 := (ad 0)) (ex3 := (am 0)) (ex4 := (ah 0)) (ex5 := ex5) (ex6 := ex6) (an := an) (Vn := s.2.2.1) (gu := gu) (bu := b164) (Ru := R163) ghq165 hq167 l) mt_437 [0, 3, 12] rfl (by decide) ⟨_, _, _, _, List.mem_flatten.mpr ⟨_, List.mem_of_getElem? (i := 0) rfl, List.mem_of_getElem? (i := 0) rfl⟩, rfl⟩ rfl (Nat.le_of_ble_eq_true rfl) ⟨Nat.le_of_ble_eq_true rfl, Nat.le_of_ble_eq_true rfl, hk0, hn0⟩ dL_law_37 ?_
          rintro _ _ ⟨rfl, rfl⟩
          show G E X 11 [xo E ax (ap 0) (ad 0) (an 0) (am 0) (ah 0) ex5 ex6, pd E ap s.1, rd E ad s.2.1, sc E an s.2.2.1, sc E am s.2.2.2.1, hb E ah (ak0 0) (ak1 0) (ak2 0) (ak3 0) (ak4 0) (ak5 0) s.2.2.2.2.1, sc E ak0 s.2.2.2.2.2.1, sc E ak1 s.2.2.2.2.2.2.1, sc E ak2 s.2.2.2.2.2.2.2.1, sc E ak3 s.2.2.2.2.2.2.2.2.1, sc E ak4 s.2.2.2.2.2.2.2.2.2.1, sc E ak5 s.2.2.2.2.2.2.2.2.2.2, gu] k n [(0, .ref E.2.2.2.2.2.2.2.1), (1, .ref (ax 0))] [.int o166] 40
          refine g_sipush (v := (240 : Int32)) C dL_law_40 (by decide) ?_
          refine g_icmp_ne (tgt := 71) C dL_law_43 (by decide) (fun c168 => ?_) (fun c168 => ?_)
          · have hf := (f_if hf).2 c168
            refine g_sub (lv2 := []) [] rfl ?_
            exact h71 K248 hK248 (s.1, s.2.1, s.2.2.1, s.2.2.2.1, s.2.2.2.2.1, s.2.2.2.2.2.1, s.2.2.2.2.2.2.1, s.2.2.2.2.2.2.2.1, s.2.2.2.2.2.2.2.2.1, s.2.2.2.2.2.2.2.2.2.1, s.2.2.2.2.2.2.2.2.2.2) hf
          · have hf := (f_if hf).1 c168
            refine g_aload_n C dL_law_46 rfl 1 rfl ?_
            refine g_iconst (v := (4 : Int32)) C dL_law_47 (by decide) ?_
            obtain ⟨R169, hq171, hf⟩ := bind_s hf
            obtain ⟨b170, ghq171⟩ := hgu _ _ hq171
            obtain ⟨o172, hq173, hf⟩ := bind_s hf
            refine g_callV (As := [.int (4 : Int32)]) (rest := []) C k_X5_rule (fun l => c_X5_rule (E := E) (ax := ax) (ex0 := (ap 0)) (ex1 := (ad 0)) (ex3 := (am 0)) (ex4 := (ah 0)) (ex5 := ex5) (ex6 := ex6) (an := an) (Vn := s.2.2.1) (gu := gu) (bu := b170) (Ru := R169) ghq171 hq173 l) mt_437 [0, 3, 12] rfl (by decide) ⟨_, _, _, _, List.mem_flatten.mpr ⟨_, List.mem_of_getElem? (i := 0) rfl, List.mem_of_getElem? (i := 0) rfl⟩, rfl⟩ rfl (Nat.le_of_ble_eq_true rfl) ⟨Nat.le_of_ble_eq_true rfl, Nat.le_of_ble_eq_true rfl, hk0, hn0⟩ dL_law_48 ?_
            rintro _ _ ⟨rfl, rfl⟩
            show G E X 11 [xo E ax (ap 0) (ad 0) (an 0) (am 0) (ah 0) ex5 ex6, pd E ap s.1, rd E ad s.2.1, sc E an s.2.2.1, sc E am s.2.2.2.1, hb E ah (ak0 0) (ak1 0) (ak2 0) (ak3 0) (ak4 0) (ak5 0) s.2.2.2.2.1, sc E ak0 s.2.2.2.2.2.1, sc E ak1 s.2.2.2.2.2.2.1, sc E ak2 s.2.2.2.2.2.2.2.1, sc E ak3 s.2.2.2.2.2.2.2.2.1, sc E ak4 s.2.2.2.2.2.2.2.2.2.1, sc E ak5 s.2.2.2.2.2.2.2.2.2.2, gu] k n [(0, .ref E.2.2.2.2.2.2.2.1), (1, .ref (ax 0))] [.int o172] 51
            refine g_bipush (v := (7 : Int32)) C dL_law_51 (by decide) ?_
            refine g_icmp_ne (tgt := 71) C dL_law_53 (by decide) (fun c174 => ?_) (fun c174 => ?_)
            · have hf := (f_if hf).2 c174
              refine g_sub (lv2 := []) [] rfl ?_
              exact h71 K248 hK248 (s.1, s.2.1, s.2.2.1, s.2.2.2.1, s.2.2.2.2.1, s.2.2.2.2.2.1, s.2.2.2.2.2.2.1, s.2.2.2.2.2.2.2.1, s.2.2.2.2.2.2.2.2.1, s.2.2.2.2.2.2.2.2.2.1, s.2.2.2.2.2.2.2.2.2.2) hf
            · have hf := (f_if hf).1 c174
              refine g_aload_n C dL_law_56 rfl 1 rfl ?_
              obtain ⟨R175, hq177, hf⟩ := bind_s hf
              obtain ⟨b176, ghq177⟩ := hgu _ _ hq177
              obtain ⟨o178, hq179, hf⟩ := bind_s hf
              refine g_callV (As := []) (rest := []) C k_X5_fewest (fun l => c_X5_fewest (E := E) (ax := ax) (ex0 := (ap 0)) (ex1 := (ad 0)) (ex3 := (am 0)) (ex4 := (ah 0)) (ex5 := ex5) (ex6 := ex6) (an := an) (Vn := s.2.2.1) (gu := gu) (bu := b176) (Ru := R175) ghq177 hq179 l) mt_486 [0, 3, 12] rfl (by decide) ⟨_, _, _, _, List.mem_flatten.mpr ⟨_, List.mem_of_getElem? (i := 0) rfl, List.mem_of_getElem? (i := 0) rfl⟩, rfl⟩ rfl (Nat.le_of_ble_eq_true rfl) ⟨Nat.le_of_ble_eq_true rfl, Nat.le_of_ble_eq_true rfl, hk0, hn0⟩ dL_law_57 ?_
              rintro _ _ ⟨rfl, rfl⟩
              show G E X 11 [xo E ax (ap 0) (ad 0) (an 0) (am 0) (ah 0) ex5 ex6, pd E ap s.1, rd E ad s.2.1, sc E an s.2.2.1, sc E am s.2.2.2.1, hb E ah (ak0 0) (ak1 0) (ak2 0) (ak3 0) (ak4 0) (ak5 0) s.2.2.2.2.1, sc E ak0 s.2.2.2.2.2.1, sc E ak1 s.2.2.2.2.2.2.1, sc E ak2 s.2.2.2.2.2.2.2.1, sc E ak3 s.2.2.2.2.2.2.2.2.1, sc E ak4 s.2.2.2.2.2.2.2.2.2.1, sc E ak5 s.2.2.2.2.2.2.2.2.2.2, gu] k n [(0, .ref E.2.2.2.2.2.2.2.1), (1, .ref (ax 0))] [.int o178] 60
              refine g_iconst (v := (3 : Int32)) C dL_law_60 (by decide) ?_
              refine g_icmp_ne (tgt := 71) C dL_law_61 (by decide) (fun c180 => ?_) (fun c180 => ?_)
              · have hf := (f_if hf).2 c180
                refine g_sub (lv2 := []) [] rfl ?_
                exact h71 K248 hK248 (s.1, s.2.1, s.2.2.1, s.2.2.2.1, s.2.2.2.2.1, s.2.2.2.2.2.1, s.2.2.2.2.2.2.1, s.2.2.2.2.2.2.2.1, s.2.2.2.2.2.2.2.2.1, s.2.2.2.2.2.2.2.2.2.1, s.2.2.2.2.2.2.2.2.2.2) hf
              · have hf := (f_if hf).1 c180
                refine g_aload_n C dL_law_64 rfl 1 rfl ?_
                obtain ⟨o181, hq182, hf⟩ := bind_s hf
                refine g_callV (As := []) (rest := []) C k_X5_way (fun l => c_X5_way (E := E) (ax := ax) (ex0 := (ap 0)) (ex1 := (ad 0)) (ex4 := (ah 0)) (ex5 := ex5) (ex6 := ex6) (an := an) (Vn := s.2.2.1) (am := am) (Vm := s.2.2.2.1) hq182 l) mt_472 [0, 3, 4] rfl (by decide) ⟨_, _, _, _, List.mem_flatten.mpr ⟨_, List.mem_of_getElem? (i := 0) rfl, List.mem_of_getElem? (i := 0) rfl⟩, rfl⟩ rfl (Nat.le_of_ble_eq_true rfl) ⟨Nat.le_of_ble_eq_true rfl, Nat.le_of_ble_eq_true rfl, hk0, hn0⟩ dL_law_65 ?_
                rintro _ _ ⟨rfl, rfl⟩
                show G E X 11 [xo E ax (ap 0) (ad 0) (an 0) (am 0) (ah 0) ex5 ex6, pd E ap s.1, rd E ad s.2.1, sc E an s.2.2.1, sc E am o181.2, hb E ah (ak0 0) (ak1 0) (ak2 0) (ak3 0) (ak4 0) (ak5 0) s.2.2.2.2.1, sc E ak0 s.2.2.2.2.2.1, sc E ak1 s.2.2.2.2.2.2.1, sc E ak2 s.2.2.2.2.2.2.2.1, sc E ak3 s.2.2.2.2.2.2.2.2.1, sc E ak4 s.2.2.2.2.2.2.2.2.2.1, sc E ak5 s.2.2.2.2.2.2.2.2.2.2, gu] k n [(0, .ref E.2.2.2.2.2.2.2.1), (1, .ref (ax 0))] [.int o181.1] 68
                refine g_if_eq (tgt := 73) C dL_law_68 (by decide) (fun c183 => ?_) (fun c183 => ?_)
                · have hf := (f_if hf).1 c183
                  refine g_aload_n C dL_law_73 rfl 0 rfl ?_
                  refine g_iconst (v := (0 : Int32)) C dL_law_74 (by decide) ?_
                  obtain ⟨o184, hq185, hf⟩ := bind_s hf
                  refine g_callS (As := [.ref E.2.2.2.2.2.2.2.1, .int (0 : Int32)]) (rest := []) C k_L_cell (fun l => c_L_cell (E := E) (L := L) (xs := xs) hsL hsx hq185 l) mt_521 [] rfl (by decide) rfl (Nat.le_of_ble_eq_true rfl) ⟨Nat.le_of_ble_eq_true rfl, Nat.le_of_ble_eq_true rfl, hk0, hn0⟩ dL_law_75 ?_
                  rintro _ _ ⟨rfl, rfl⟩
                  show G E X 11 [xo E ax (ap 0) (ad 0) (an 0) (am 0) (ah 0) ex5 ex6, pd E ap s.1, rd E ad s.2.1, sc E an s.2.2.1, sc E am o181.2, hb E ah (ak0 0) (ak1 0) (ak2 0) (ak3 0) (ak4 0) (ak5 0) s.2.2.2.2.1, sc E ak0 s.2.2.2.2.2.1, sc E ak1 s.2.2.2.2.2.2.1, sc E ak2 s.2.2.2.2.2.2.2.1, sc E ak3 s.2.2.2.2.2.2.2.2.1, sc E ak4 s.2.2.2.2.2.2.2.2.2.1, sc E ak5 s.2.2.2.2.2.2.2.2.2.2, gu] k n [(0, .ref E.2.2.2.2.2.2.2.1), (1, .ref (ax 0))] [.int o184] 78
                  refine g_istore_n (lv2 := [(2, .int o184), (0, .ref E.2.2.2.2.2.2.2.1), (1, .ref (ax 0))]) C dL_law_78 rfl (by decide) rfl ?_
                  refine g_aload_n C dL_law_79 rfl 2 rfl ?_
                  refine g_iconst (v := (0 : Int32)) C dL_law_80 (by decide) ?_
                  refine g_bipush (v := (30 : Int32)) C dL_law_81 (by decide) ?_
                  refine g_iload_n C dL_law_83 rfl 0 rfl ?_
                  refine g_bipush (v := (61 : Int32)) C dL_law_84 (by decide) ?_
                  obtain ⟨o186, hq187, hf⟩ := bind_s hf
                  refine g_callS (As := [.int o184, .int (61 : Int32)]) (rest := [.int (30 : Int32), .int (0 : Int32), .ref (ax 0)]) C k_L_low (fun l => c_L_low (E := E) hq187 l) mt_526 [] rfl (by decide) rfl (Nat.le_of_ble_eq_true rfl) ⟨Nat.le_of_ble_eq_true rfl, Nat.le_of_ble_eq_true rfl, hk0, hn0⟩ dL_law_86 ?_
                  rintro _ _ ⟨rfl, rfl⟩
                  show G E X 11 [xo E ax (ap 0) (ad 0) (an 0) (am 0) (ah 0) ex5 ex6, pd E ap s.1, rd E ad s.2.1, sc E an s.2.2.1, sc E am o181.2, hb E ah (ak0 0) (ak1 0) (ak2 0) (ak3 0) (ak4 0) (ak5 0) s.2.2.2.2.1, sc E ak0 s.2.2.2.2.2.1, sc E ak1 s.2.2.2.2.2.2.1, sc E ak2 s.2.2.2.2.2.2.2.1, sc E ak3 s.2.2.2.2.2.2.2.2.1, sc E ak4 s.2.2.2.2.2.2.2.2.2.1, sc E ak5 s.2.2.2.2.2.2.2.2.2.2, gu] k n [(2, .int o184), (0, .ref E.2.2.2.2.2.2.2.1), (1, .ref (ax 0))] [.int o186, .int (30 : Int32), .int (0 : Int32), .ref (ax 0)] 89
                  refine g_iadd C dL_law_89 ?_
                  obtain ⟨o188, hq189, hf⟩ := bind_s hf
                  refine g_callV (As := [.int (0 : Int32), .int ((30 : Int32) + o186)]) (rest := []) C k_X5_set (fun l => c_X5_set (E := E) (ax := ax) (ex0 := (ap 0)) (ex1 := (ad 0)) (ex3 := (am 0)) (ex5 := ex5) (ex6 := ex6) (an := an) (Vn := s.2.2.1) (ah := ah) (Vh := s.2.2.2.2.1) (ak0 := ak0) (Vk0 := s.2.2.2.2.2.1) (ak1 := ak1) (Vk1 := s.2.2.2.2.2.2.1) (ak2 := ak2) (Vk2 := s.2.2.2.2.2.2.2.1) (ak3 := ak3) (Vk3 := s.2.2.2.2.2.2.2.2.1) (ak4 := ak4) (Vk4 := s.2.2.2.2.2.2.2.2.2.1) (ak5 := ak5) (Vk5 := s.2.2.2.2.2.2.2.2.2.2) hq189 l) mt_319 [0, 3, 5, 6, 7, 8, 9, 10, 11] rfl (by decide) ⟨_, _, _, _, List.mem_flatten.mpr ⟨_, List.mem_of_getElem? (i := 0) rfl, List.mem_of_getElem? (i := 0) rfl⟩, rfl⟩ rfl (Nat.le_of_ble_eq_true rfl) ⟨Nat.le_of_ble_eq_true rfl, Nat.le_of_ble_eq_true rfl, hk0, hn0⟩ dL_law_90 ?_
                  rintro _ _ ⟨rfl, rfl⟩
                  show G E X 11 [xo E ax (ap 0) (ad 0) (an 0) (am 0) (ah 0) ex5 ex6, pd E ap s.1, rd E ad s.2.1, sc E an o188.2.1, sc E am o181.2, hb E ah (ak0 0) (ak1 0) (ak2 0) (ak3 0) (ak4 0) (ak5 0) o188.2.2.1, sc E ak0 o188.2.2.2.1, sc E ak1 o188.2.2.2.2.1, sc E ak2 o188.2.2.2.2.2.1, sc E ak3 o188.2.2.2.2.2.2.1, sc E ak4 o188.2.2.2.2.2.2.2.1, sc E ak5 o188.2.2.2.2.2.2.2.2, gu] k n [(2, .int o184), (0, .ref E.2.2.2.2.2.2.2.1), (1, .ref (ax 0))] [.int o188.1] 93
                  refine g_bipush (v := (50 : Int32)) C dL_law_93 (by decide) ?_
                  refine g_icmp_ne (tgt := 165) C dL_law_95 (by decide) (fun c190 => ?_) (fun c190 => ?_)
                  · have hf := (f_if hf).2 c190
                    refine g_sub (lv2 := [(0, .ref E.2.2.2.2.2.2.2.1), (1, .ref (ax 0)), (2, .int o184)]) [1, 2, 0] rfl ?_
                    exact h165 K248 hK248 (s.1, s.2.1, o188.2.1, o181.2, o188.2.2.1, o188.2.2.2.1, o188.2.2.2.2.1, o188.2.2.2.2.2.1, o188.2.2.2.2.2.2.1, o188.2.2.2.2.2.2.2.1, o188.2.2.2.2.2.2.2.2, o184) hf
                  · have hf := (f_if hf).1 c190
                    refine g_aload_n C dL_law_98 rfl 2 rfl ?_
                    refine g_iconst (v := (1 : Int32)) C dL_law_99 (by decide) ?_
                    refine g_iconst (v := (1 : Int32)) C dL_law_100 (by decide) ?_
                    refine g_iload_n C dL_law_101 rfl 0 rfl ?_
                    refine g_bipush (v := (6 : Int32)) C dL_law_102 (by decide) ?_
                    refine g_ishr C dL_law_104 ?_
                    refine g_bipush (v := (40 : Int32)) C dL_law_105 (by decide) ?_
                    obtain ⟨o191, hq192, hf⟩ := bind_s hf
                    refine g_callS (As := [.int (o184 >>> ((6 : Int32) &&& 31)), .int (40 : Int32)]) (rest := [.int (1 : Int32), .int (1 : Int32), .ref (ax 0)]) C k_L_low (fun l => c_L_low (E := E) hq192 l) mt_526 [] rfl (by decide) rfl (Nat.le_of_ble_eq_true rfl) ⟨Nat.le_of_ble_eq_true rfl, Nat.le_of_ble_eq_true rfl, hk0, hn0⟩ dL_law_107 ?_
                    rintro _ _ ⟨rfl, rfl⟩
                    show G E X 11 [xo E ax (ap 0) (ad 0) (an 0) (am 0) (ah 0) ex5 ex6, pd E ap s.1, rd E ad s.2.1, sc E an o188.2.1, sc E am o181.2, hb E ah (ak0 0) (ak1 0) (ak2 0) (ak3 0) (ak4 0) (ak5 0) o188.2.2.1, sc E ak0 o188.2.2.2.1, sc E ak1 o188.2.2.2.2.1, sc E ak2 o188.2.2.2.2.2.1, sc E ak3 o188.2.2.2.2.2.2.1, sc E ak4 o188.2.2.2.2.2.2.2.1, sc E ak5 o188.2.2.2.2.2.2.2.2, gu] k n [(2, .int o184), (0, .ref E.2.2.2.2.2.2.2.1), (1, .ref (ax 0))] [.int o191, .int (1 : Int32), .int (1 : Int32), .ref (ax 0)] 110
                    refine g_iadd C dL_law_110 ?_
                    obtain ⟨o193, hq194, hf⟩ := bind_s hf
                    refine g_callV (As := [.int (1 : Int32), .int ((1 : Int32) + o191)]) (rest := []) C k_X5_set (fun l => c_X5_set (E := E) (ax := ax) (ex0 := (ap 0)) (ex1 := (ad 0)) (ex3 := (am 0)) (ex5 := ex5) (ex6 := ex6) (an := an) (Vn := o188.2.1) (ah := ah) (Vh := o188.2.2.1) (ak0 := ak0) (Vk0 := o188.2.2.2.1) (ak1 := ak1) (Vk1 := o188.2.2.2.2.1) (ak2 := ak2) (Vk2 := o188.2.2.2.2.2.1) (ak3 := ak3) (Vk3 := o188.2.2.2.2.2.2.1) (ak4 := ak4) (Vk4 := o188.2.2.2.2.2.2.2.1) (ak5 := ak5) (Vk5 := o188.2.2.2.2.2.2.2.2) hq194 l) mt_319 [0, 3, 5, 6, 7, 8, 9, 10, 11] rfl (by decide) ⟨_, _, _, _, List.mem_flatten.mpr ⟨_, List.mem_of_getElem? (i := 0) rfl, List.mem_of_getElem? (i := 0) rfl⟩, rfl⟩ rfl (Nat.le_of_ble_eq_true rfl) ⟨Nat.le_of_ble_eq_true rfl, Nat.le_of_ble_eq_true rfl, hk0, hn0⟩ dL_law_111 ?_
                    rintro _ _ ⟨rfl, rfl⟩
                    show G E X 11 [xo E ax (ap 0) (ad 0) (an 0) (am 0) (ah 0) ex5 ex6, pd E ap s.1, rd E ad s.2.1, sc E an o193.2.1, sc E am o181.2, hb E ah (ak0 0) (ak1 0) (ak2 0) (ak3 0) (ak4 0) (ak5 0) o193.2.2.1, sc E ak0 o193.2.2.2.1, sc E ak1 o193.2.2.2.2.1, sc E ak2 o193.2.2.2.2.2.1, sc E ak3 o193.2.2.2.2.2.2.1, sc E ak4 o193.2.2.2.2.2.2.2.1, sc E ak5 o193.2.2.2.2.2.2.2.2, gu] k n [(2, .int o184), (0, .ref E.2.2.2.2.2.2.2.1), (1, .ref (ax 0))] [.int o193.1] 114
                    refine g_bipush (v := (10 : Int32)) C dL_law_114 (by decide) ?_
                    refine g_icmp_ne (tgt := 165) C dL_law_116 (by decide) (fun c195 => ?_) (fun c195 => ?_)
                    · have hf := (f_if hf).2 c195
                      refine g_sub (lv2 := [(0, .ref E.2.2.2.2.2.2.2.1), (1, .ref (ax 0)), (2, .int o184)]) [1, 2, 0] rfl ?_
                      exact h165 K248 hK248 (s.1, s.2.1, o193.2.1, o181.2, o193.2.2.1, o193.2.2.2.1, o193.2.2.2.2.1, o193.2.2.2.2.2.1, o193.2.2.2.2.2.2.1, o193.2.2.2.2.2.2.2.1, o193.2.2.2.2.2.2.2.2, o184) hf
                    · have hf := (f_if hf).1 c195
                      refine g_aload_n C dL_law_119 rfl 2 rfl ?_
                      refine g_iconst (v := (2 : Int32)) C dL_law_120 (by decide) ?_
                      refine g_iconst (v := (1 : Int32)) C dL_law_121 (by decide) ?_
                      refine g_iload_n C dL_law_122 rfl 0 rfl ?_
                      refine g_bipush (v := (12 : Int32)) C dL_law_123 (by decide) ?_
                      refine g_ishr C dL_law_125 ?_
                      refine g_bipush (v := (30 : Int32)) C dL_law_126 (by decide) ?_
                      obtain ⟨o196, hq197, hf⟩ := bind_s hf
                      refine g_callS (As := [.int (o184 >>> ((12 : Int32) &&& 31)), .int (30 : Int32)]) (rest := [.int (1 : Int32), .int (2 : Int32), .ref (ax 0)]) C k_L_low (fun l => c_L_low (E := E) hq197 l) mt_526 [] rfl (by decide) rfl (Nat.le_of_ble_eq_true rfl) ⟨Nat.le_of_ble_eq_true rfl, Nat.le_of_ble_eq_true rfl, hk0, hn0⟩ dL_law_128 ?_
                      rintro _ _ ⟨rfl, rfl⟩
                      show G E X 11 [xo E ax (ap 0) (ad 0) (an 0) (am 0) (ah 0) ex5 ex6, pd E ap s.1, rd E ad s.2.1, sc E an o193.2.1, sc E am o181.2, hb E ah (ak0 0) (ak1 0) (ak2 0) (ak3 0) (ak4 0) (ak5 0) o193.2.2.1, sc E ak0 o193.2.2.2.1, sc E ak1 o193.2.2.2.2.1, sc E ak2 o193.2.2.2.2.2.1, sc E ak3 o193.2.2.2.2.2.2.1, sc E ak4 o193.2.2.2.2.2.2.2.1, sc E ak5 o193.2.2.2.2.2.2.2.2, gu] k n [(2, .int o184), (0, .ref E.2.2.2.2.2.2.2.1), (1, .ref (ax 0))] [.int o196, .int (1 : Int32), .int (2 : Int32), .ref (ax 0)] 131
                      refine g_iadd C dL_law_131 ?_
                      obtain ⟨o198, hq199, hf⟩ := bind_s hf
                      refine g_callV (As := [.int (2 : Int32), .int ((1 : Int32) + o196)]) (rest := []) C k_X5_set (fun l => c_X5_set (E := E) (ax := ax) (ex0 := (ap 0)) (ex1 := (ad 0)) (ex3 := (am 0)) (ex5 := ex5) (ex6 := ex6) (an := an) (Vn := o193.2.1) (ah := ah) (Vh := o193.2.2.1) (ak0 := ak0) (Vk0 := o193.2.2.2.1) (ak1 := ak1) (Vk1 := o193.2.2.2.2.1) (ak2 := ak2) (Vk2 := o193.2.2.2.2.2.1) (ak3 := ak3) (Vk3 := o193.2.2.2.2.2.2.1) (ak4 := ak4) (Vk4 := o193.2.2.2.2.2.2.2.1) (ak5 := ak5) (Vk5 := o193.2.2.2.2.2.2.2.2) hq199 l) mt_319 [0, 3, 5, 6, 7, 8, 9, 10, 11] rfl (by decide) ⟨_, _, _, _, List.mem_flatten.mpr ⟨_, List.mem_of_getElem? (i := 0) rfl, List.mem_of_getElem? (i := 0) rfl⟩, rfl⟩ rfl (Nat.le_of_ble_eq_true rfl) ⟨Nat.le_of_ble_eq_true rfl, Nat.le_of_ble_eq_true rfl, hk0, hn0⟩ dL_law_132 ?_
                      rintro _ _ ⟨rfl, rfl⟩
                      show G E X 11 [xo E ax (ap 0) (ad 0) (an 0) (am 0) (ah 0) ex5 ex6, pd E ap s.1, rd E ad s.2.1, sc E an o198.2.1, sc E am o181.2, hb E ah (ak0 0) (ak1 0) (ak2 0) (ak3 0) (ak4 0) (ak5 0) o198.2.2.1, sc E ak0 o198.2.2.2.1, sc E ak1 o198.2.2.2.2.1, sc E ak2 o198.2.2.2.2.2.1, sc E ak3 o198.2.2.2.2.2.2.1, sc E ak4 o198.2.2.2.2.2.2.2.1, sc E ak5 o198.2.2.2.2.2.2.2.2, gu] k n [(2, .int o184), (0, .ref E.2.2.2.2.2.2.2.1), (1, .ref (ax 0))] [.int o198.1] 135
                      refine g_bipush (v := (6 : Int32)) C dL_law_135 (by decide) ?_
                      refine g_icmp_ne (tgt := 165) C dL_law_137 (by decide) (fun c200 => ?_) (fun c200 => ?_)
                      · have hf := (f_if hf).2 c200
                        refine g_sub (lv2 := [(0, .ref E.2.2.2.2.2.2.2.1), (1, .ref (ax 0)), (2, .int o184)]) [1, 2, 0] rfl ?_
                        exact h165 K248 hK248 (s.1, s.2.1, o198.2.1, o181.2, o198.2.2.1, o198.2.2.2.1, o198.2.2.2.2.1, o198.2.2.2.2.2.1, o198.2.2.2.2.2.2.1, o198.2.2.2.2.2.2.2.1, o198.2.2.2.2.2.2.2.2, o184) hf
                      · have hf := (f_if hf).1 c200
                        refine g_aload_n C dL_law_140 rfl 2 rfl ?_
                        refine g_iconst (v := (3 : Int32)) C dL_law_141 (by decide) ?_
                        refine g_iconst (v := (1 : Int32)) C dL_law_142 (by decide) ?_
                        refine g_iload_n C dL_law_143 rfl 0 rfl ?_
                        refine g_bipush (v := (17 : Int32)) C dL_law_144 (by decide) ?_
                        refine g_ishr C dL_law_146 ?_
                        refine g_bipush (v := (20 : Int32)) C dL_law_147 (by decide) ?_
                        obtain ⟨o201, hq202, hf⟩ := bind_s hf
                        refine g_callS (As := [.int (o184 >>> ((17 : Int32) &&& 31)), .int (20 : Int32)]) (rest := [.int (1 : Int32), .int (3 : Int32), .ref (ax 0)]) C k_L_low (fun l => c_L_low (E := E) hq202 l) mt_526 [] rfl (by decide) rfl (Nat.le_of_ble_eq_true rfl) ⟨Nat.le_of_ble_eq_true rfl, Nat.le_of_ble_eq_true rfl, hk0, hn0⟩ dL_law_149 ?_
                        rintro _ _ ⟨rfl, rfl⟩
                        show G E X 11 [xo E ax (ap 0) (ad 0) (an 0) (am 0) (ah 0) ex5 ex6, pd E ap s.1, rd E ad s.2.1, sc E an o198.2.1, sc E am o181.2, hb E ah (ak0 0) (ak1 0) (ak2 0) (ak3 0) (ak4 0) (ak5 0) o198.2.2.1, sc E ak0 o198.2.2.2.1, sc E ak1 o198.2.2.2.2.1, sc E ak2 o198.2.2.2.2.2.1, sc E ak3 o198.2.2.2.2.2.2.1, sc E ak4 o198.2.2.2.2.2.2.2.1, sc E ak5 o198.2.2.2.2.2.2.2.2, gu] k n [(2, .int o184), (0, .ref E.2.2.2.2.2.2.2.1), (1, .ref (ax 0))] [.int o201, .int (1 : Int32), .int (3 : Int32), .ref (ax 0)] 152
                        refine g_iadd C dL_law_152 ?_
                        obtain ⟨o203, hq204, hf⟩ := bind_s hf
                        refine g_callV (As := [.int (3 : Int32), .int ((1 : Int32) + o201)]) (rest := []) C k_X5_set (fun l => c_X5_set (E := E) (ax := ax) (ex0 := (ap 0)) (ex1 := (ad 0)) (ex3 := (am 0)) (ex5 := ex5) (ex6 := ex6) (an := an) (Vn := o198.2.1) (ah := ah) (Vh := o198.2.2.1) (ak0 := ak0) (Vk0 := o198.2.2.2.1) (ak1 := ak1) (Vk1 := o198.2.2.2.2.1) (ak2 := ak2) (Vk2 := o198.2.2.2.2.2.1) (ak3 := ak3) (Vk3 := o198.2.2.2.2.2.2.1) (ak4 := ak4) (Vk4 := o198.2.2.2.2.2.2.2.1) (ak5 := ak5) (Vk5 := o198.2.2.2.2.2.2.2.2) hq204 l) mt_319 [0, 3, 5, 6, 7, 8, 9, 10, 11] rfl (by decide) ⟨_, _, _, _, List.mem_flatten.mpr ⟨_, List.mem_of_getElem? (i := 0) rfl, List.mem_of_getElem? (i := 0) rfl⟩, rfl⟩ rfl (Nat.le_of_ble_eq_true rfl) ⟨Nat.le_of_ble_eq_true rfl, Nat.le_of_ble_eq_true rfl, hk0, hn0⟩ dL_law_153 ?_
                        rintro _ _ ⟨rfl, rfl⟩
                        show G E X 11 [xo E ax (ap 0) (ad 0) (an 0) (am 0) (ah 0) ex5 ex6, pd E ap s.1, rd E ad s.2.1, sc E an o203.2.1, sc E am o181.2, hb E ah (ak0 0) (ak1 0) (ak2 0) (ak3 0) (ak4 0) (ak5 0) o203.2.2.1, sc E ak0 o203.2.2.2.1, sc E ak1 o203.2.2.2.2.1, sc E ak2 o203.2.2.2.2.2.1, sc E ak3 o203.2.2.2.2.2.2.1, sc E ak4 o203.2.2.2.2.2.2.2.1, sc E ak5 o203.2.2.2.2.2.2.2.2, gu] k n [(2, .int o184), (0, .ref E.2.2.2.2.2.2.2.1), (1, .ref (ax 0))] [.int o203.1] 156
                        refine g_bipush (v := (20 : Int32)) C dL_law_156 (by decide) ?_
                        refine g_icmp_ne (tgt := 165) C dL_law_158 (by decide) (fun c205 => ?_) (fun c205 => ?_)
                        · have hf := (f_if hf).2 c205
                          refine g_sub (lv2 := [(0, .ref E.2.2.2.2.2.2.2.1), (1, .ref (ax 0)), (2, .int o184)]) [1, 2, 0] rfl ?_
                          exact h165 K248 hK248 (s.1, s.2.1, o203.2.1, o181.2, o203.2.2.1, o203.2.2.2.1, o203.2.2.2.2.1, o203.2.2.2.2.2.1, o203.2.2.2.2.2.2.1, o203.2.2.2.2.2.2.2.1, o203.2.2.2.2.2.2.2.2, o184) hf
                        · have hf := (f_if hf).1 c205
                          refine g_iconst (v := (1 : Int32)) C dL_law_161 (by decide) ?_
                          refine g_goto (tgt := 166) C dL_law_162 (by decide) ?_
                          refine g_sub (lv2 := [(0, .ref E.2.2.2.2.2.2.2.1), (1, .ref (ax 0)), (2, .int o184)]) [1, 2, 0] rfl ?_
                          exact h166 K248 hK248 (s.1, s.2.1, o203.2.1, o181.2, o203.2.2.1, o203.2.2.2.1, o203.2.2.2.2.1, o203.2.2.2.2.2.1, o203.2.2.2.2.2.2.1, o203.2.2.2.2.2.2.2.1, o203.2.2.2.2.2.2.2.2, o184, (1 : Int32)) hf
                · have hf := (f_if hf).2 c183
                  refine g_sub (lv2 := []) [] rfl ?_
                  exact h71 K248 hK248 (s.1, s.2.1, s.2.2.1, o181.2, s.2.2.2.2.1, s.2.2.2.2.2.1, s.2.2.2.2.2.2.1, s.2.2.2.2.2.2.2.1, s.2.2.2.2.2.2.2.2.1, s.2.2.2.2.2.2.2.2.2.1, s.2.2.2.2.2.2.2.2.2.2) hf
  exact h8 K248 hK248
