def b_L_isRule_193 (N : Nat) (Vn : St) (ρ : Nat → Option Ru) (p1 : Int32) (s : Int32) : Option (Int32) := (zb s (some s))
def b_L_isRule_192 (N : Nat) (Vn : St) (ρ : Nat → Option Ru) (p1 : Int32) (s : Unit) : Option (Int32) := b_L_isRule_193 N Vn ρ p1 (0 : Int32)
def b_L_isRule_159 (N : Nat) (Vn : St) (ρ : Nat → Option Ru) (p1 : Int32) (s : Int32 × Int32 × Int32) : Option (Int32) := (if s.2.1 = s.2.2 then ((ρ Vn.2.2.2.2.2.2.1).bind fun R3 => ((f_X5_rule N Vn R3 (3 : Int32)).bind fun o6 => ((f_L_letters N p1).bind fun o8 => (if o6 = o8 then ((ρ Vn.2.2.2.2.2.2.1).bind fun R11 => ((f_X5_rule N Vn R11 (4 : Int32)).bind fun o14 => ((f_L_looked N p1 s.1 (0 : Int32)).bind fun o16 => (if o14 = o16 then b_L_isRule_193 N Vn ρ p1 (1 : Int32) else b_L_isRule_192 N Vn ρ p1 ())))) else b_L_isRule_192 N Vn ρ p1 ())))) else b_L_isRule_192 N Vn ρ p1 ())
def b_L_isRule_76 (N : Nat) (Vn : St) (ρ : Nat → Option Ru) (p1 : Int32) (K76 : (Int32 × Int32 × Int32) → Option (Int32)) (s : Int32 × Int32 × Int32) : Option (Int32) := (if (8 : Int32) ≤ s.2.2 then ((ρ Vn.2.2.2.2.2.2.1).bind fun R20 => ((f_X5_fewest N Vn R20).bind fun o23 => (if o23 = s.1 then ((ρ Vn.2.2.2.2.2.2.1).bind fun R26 => ((f_X5_rule N Vn R26 (0 : Int32)).bind fun o29 => ((f_L_looked N p1 s.2.1 (1 : Int32)).bind fun o31 => (if o29 = o31 then ((ρ Vn.2.2.2.2.2.2.1).bind fun R34 => ((f_X5_rule N Vn R34 (1 : Int32)).bind fun o37 => ((f_L_deep N p1).bind fun o39 => (if o37 = o39 then ((ρ Vn.2.2.2.2.2.2.1).bind fun R42 => ((f_X5_rule N Vn R42 (2 : Int32)).bind fun o45 => ((f_L_holds N p1 s.2.1).bind fun o47 => (if o47 = 0 then b_L_isRule_159 N Vn ρ p1 (s.2.1, o45, (0 : Int32)) else b_L_isRule_159 N Vn ρ p1 (s.2.1, o45, (1 : Int32)))))) else b_L_isRule_192 N Vn ρ p1 ())))) else b_L_isRule_192 N Vn ρ p1 ())))) else b_L_isRule_192 N Vn ρ p1 ()))) else ((f_X5_ofSpot Vn (s.2.2 / (2 : Int32)) (s.2.2 - s.2.2 / (2 : Int32) * (2 : Int32))).bind fun o50 => K76 (s.1, (s.2.1 ||| (o50 <<< (s.2.2 &&& 31))), (s.2.2 + (1 : Int32)))))
def b_L_isRule_64 (N : Nat) (Vn : St) (ρ : Nat → Option Ru) (p1 : Int32) (K5 : (Int32 × Int32) → Option (Int32)) (s : Int32 × Int32) : Option (Int32) := K5 (s.2, (s.1 + (1 : Int32)))
def b_L_isRule_63 (N : Nat) (Vn : St) (ρ : Nat → Option Ru) (p1 : Int32) (K5 : (Int32 × Int32) → Option (Int32)) (s : Int32 × Int32) : Option (Int32) := b_L_isRule_64 N Vn ρ p1 K5 (s.2, s.1)
def b_L_isRule_59 (N : Nat) (Vn : St) (ρ : Nat → Option Ru) (p1 : Int32) (K5 : (Int32 × Int32) → Option (Int32)) (s : Int32) : Option (Int32) := b_L_isRule_64 N Vn ρ p1 K5 (s, s)
def b_L_isRule_34 (N : Nat) (Vn : St) (ρ : Nat → Option Ru) (p1 : Int32) (K5 : (Int32 × Int32) → Option (Int32)) (s : Int32 × Int32 × Int32 × Int32 × Int32) : Option (Int32) := (if s.2.2.2.1 = s.2.2.2.2 then (if s.2.2.1 = 0 then b_L_isRule_63 N Vn ρ p1 K5 (s.1, s.2.1) else (if s.1 < 0 then b_L_isRule_59 N Vn ρ p1 K5 s.2.1 else ((f_L_bits N s.2.1).bind fun o55 => ((f_L_bits N s.1).bind fun o57 => (if o57 ≤ o55 then b_L_isRule_63 N Vn ρ p1 K5 (s.1, s.2.1) else b_L_isRule_59 N Vn ρ p1 K5 s.2.1))))) else some (0 : Int32))
def b_L_isRule_5 (N : Nat) (Vn : St) (ρ : Nat → Option Ru) (p1 : Int32) (K5 : (Int32 × Int32) → Option (Int32)) (s : Int32 × Int32) : Option (Int32) := (if (256 : Int32) ≤ s.2 then lp (b_L_isRule_76 N Vn ρ p1) N (s.1, (0 : Int32), (0 : Int32)) else ((f_L_holds N p1 s.2).bind fun o61 => ((ρ Vn.2.2.2.2.2.2.1).bind fun R63 => ((f_X5_wouldHold N Vn R63 s.2).bind fun o66 => (if o61 = 0 then b_L_isRule_34 N Vn ρ p1 K5 (s.1, s.2, o61, o66, (0 : Int32)) else b_L_isRule_34 N Vn ρ p1 K5 (s.1, s.2, o61, o66, (1 : Int32)))))))
def f_L_isRule (N : Nat) (Vn : St) (ρ : Nat → Option Ru) (p1 : Int32) : Option (Int32) := lp (b_L_isRule_5 N Vn ρ p1) N ((-6 : Int32), (0 : Int32))
abbrev rm_L_isRule : Room := { frames := 6, cells := 0, slots := 0, locals := 136 }
set_option maxRecDepth 100000 in
theorem k_L_isRule : CFs yL_isRule cL_isRule 5 (some .boolean) 2 := ⟨mt_570, mt_0, mt_571, ⟨by decide +kernel, by decide +kernel, by decide +kernel⟩⟩
set_option maxHeartbeats 4000000 in
set_option maxRecDepth 100000 in
theorem c_L_isRule {E : Ev} {ex0 : Nat} {ex1 : Nat} {ex3 : Nat} {ex4 : Nat} {ex5 : Nat} {ex6 : Nat} {ax : Nat → Nat} {an : Nat → Nat} {Vn : St} {gu : va_W} {ρ : Nat → Option Ru} (hgu : ∀ r R, ρ r = some R → RIn E gu r R) {p1 : Int32} {N : Nat} {o : Int32} (hf : f_L_isRule N Vn ρ p1 = some o) : ∀ l, MG l yL_isRule cL_isRule 5 (some .boolean) rm_L_isRule E [.ref (ax 0), .int p1] [xo E ax ex0 ex1 (an 0) ex3 ex4 ex5 ex6, sc E an Vn, gu] (fun v Y => v = some (.int o) ∧ Y = [xo E ax ex0 ex1 (an 0) ex3 ex4 ex5 ex6, sc E an Vn, gu]) := by
  refine MG.mk (own := RL) (lv0 := [(0, .ref (ax 0)), (1, .int p1)]) (by decide) rfl (Nat.le_of_ble_eq_true rfl) rfl (fun X C K I => ?_)
  have h193 : ∀ s : Int32, b_L_isRule_193 N Vn ρ p1 s = some o → G E X 5 [xo E ax ex0 ex1 (an 0) ex3 ex4 ex5 ex6, sc E an Vn, gu] 0 0 [] [.int s] 193 := by
    intro s hf
    unfold b_L_isRule_193 at hf
    obtain ⟨z1, hf⟩ := zb_s hf
    obtain rfl := Option.some.inj hf
    exact g_zret C K z1 dL_isRule_193 (Nat.le_of_ble_eq_true rfl) (Nat.le_of_ble_eq_true rfl) ⟨rfl, rfl⟩
  have h192 : ∀ s : Unit, b_L_isRule_192 N Vn ρ p1 s = some o → G E X 5 [xo E ax ex0 ex1 (an 0) ex3 ex4 ex5 ex6, sc E an Vn, gu] 0 0 [] [] 192 := by
    intro s hf
    unfold b_L_isRule_192 at hf
    refine g_iconst (v := (0 : Int32)) C dL_isRule_192 (by decide) ?_
    exact h193 (0 : Int32) hf
  have h159 : ∀ s : Int32 × Int32 × Int32, b_L_isRule_159 N Vn ρ p1 s = some o → G E X 5 [xo E ax ex0 ex1 (an 0) ex3 ex4 ex5 ex6, sc E an Vn, gu] 0 0 [(0, .ref (ax 0)), (1, .int p1), (3, .int s.1)] [.int s.2.2, .int s.2.1] 159 := by
    intro s hf
    unfold b_L_isRule_159 at hf
    refine g_icmp_ne (tgt := 192) C dL_isRule_159 (by decide) (fun c2 => ?_) (fun c2 => ?_)
    · have hf := (f_if hf).2 c2
      refine g_sub (lv2 := []) [] rfl ?_
      exact h192 () hf
    · have hf := (f_if hf).1 c2
      refine g_aload_n C dL_isRule_162 rfl 0 rfl ?_
      refine g_iconst (v := (3 : Int32)) C dL_isRule_163 (by decide) ?_
      obtain ⟨R3, hq5, hf⟩ := bind_s hf
      obtain ⟨b4, ghq5⟩ := hgu _ _ hq5
      obtain ⟨o6, hq7, hf⟩ := bind_s hf
      refine g_callV (As := [.int (3 : Int32)]) (rest := []) C k_X5_rule (fun l => c_X5_rule (E := E) (ax := ax) (ex0 := ex0) (ex1 := ex1) (ex3 := ex3) (ex4 := ex4) (ex5 := ex5) (ex6 := ex6) (an := an) (Vn := Vn) (gu := gu) (bu := b4) (Ru := R3) ghq5 hq7 l) mt_437 [0, 1, 2] rfl (by decide) ⟨_, _, _, _, List.mem_flatten.mpr ⟨_, List.mem_of_getElem? (i := 0) rfl, List.mem_of_getElem? (i := 0) rfl⟩, rfl⟩ rfl (Nat.le_of_ble_eq_true rfl) ⟨Nat.le_of_ble_eq_true rfl, Nat.le_of_ble_eq_true rfl, Nat.le_of_ble_eq_true rfl, Nat.le_of_ble_eq_true rfl⟩ dL_isRule_164 ?_
      rintro _ _ ⟨rfl, rfl⟩
      show G E X 5 [xo E ax ex0 ex1 (an 0) ex3 ex4 ex5 ex6, sc E an Vn, gu] 0 0 [(0, .ref (ax 0)), (1, .int p1), (3, .int s.1)] [.int o6] 167
      refine g_iload_n C dL_isRule_167 rfl 1 rfl ?_
      obtain ⟨o8, hq9, hf⟩ := bind_s hf
      refine g_callS (As := [.int p1]) (rest := [.int o6]) C k_L_letters (fun l => c_L_letters (E := E) hq9 l) mt_594 [] rfl (by decide) rfl (Nat.le_of_ble_eq_true rfl) ⟨Nat.le_of_ble_eq_true rfl, Nat.le_of_ble_eq_true rfl, Nat.le_of_ble_eq_true rfl, Nat.le_of_ble_eq_true rfl⟩ dL_isRule_168 ?_
      rintro _ _ ⟨rfl, rfl⟩
      show G E X 5 [xo E ax ex0 ex1 (an 0) ex3 ex4 ex5 ex6, sc E an Vn, gu] 0 0 [(0, .ref (ax 0)), (1, .int p1), (3, .int s.1)] [.int o8, .int o6] 171
      refine g_icmp_ne (tgt := 192) C dL_isRule_171 (by decide) (fun c10 => ?_) (fun c10 => ?_)
      · have hf := (f_if hf).2 c10
        refine g_sub (lv2 := []) [] rfl ?_
        exact h192 () hf
      · have hf := (f_if hf).1 c10
        refine g_aload_n C dL_isRule_174 rfl 0 rfl ?_
        refine g_iconst (v := (4 : Int32)) C dL_isRule_175 (by decide) ?_
        obtain ⟨R11, hq13, hf⟩ := bind_s hf
        obtain ⟨b12, ghq13⟩ := hgu _ _ hq13
        obtain ⟨o14, hq15, hf⟩ := bind_s hf
        refine g_callV (As := [.int (4 : Int32)]) (rest := []) C k_X5_rule (fun l => c_X5_rule (E := E) (ax := ax) (ex0 := ex0) (ex1 := ex1) (ex3 := ex3) (ex4 := ex4) (ex5 := ex5) (ex6 := ex6) (an := an) (Vn := Vn) (gu := gu) (bu := b12) (Ru := R11) ghq13 hq15 l) mt_437 [0, 1, 2] rfl (by decide) ⟨_, _, _, _, List.mem_flatten.mpr ⟨_, List.mem_of_getElem? (i := 0) rfl, List.mem_of_getElem? (i := 0) rfl⟩, rfl⟩ rfl (Nat.le_of_ble_eq_true rfl) ⟨Nat.le_of_ble_eq_true rfl, Nat.le_of_ble_eq_true rfl, Nat.le_of_ble_eq_true rfl, Nat.le_of_ble_eq_true rfl⟩ dL_isRule_176 ?_
        rintro _ _ ⟨rfl, rfl⟩
        show G E X 5 [xo E ax ex0 ex1 (an 0) ex3 ex4 ex5 ex6, sc E an Vn, gu] 0 0 [(0, .ref (ax 0)), (1, .int p1), (3, .int s.1)] [.int o14] 179
        refine g_iload_n C dL_isRule_179 rfl 1 rfl ?_
        refine g_iload_n C dL_isRule_180 rfl 2 rfl ?_
        refine g_iconst (v := (0 : Int32)) C dL_isRule_181 (by decide) ?_
        obtain ⟨o16, hq17, hf⟩ := bind_s hf
        refine g_callS (As := [.int p1, .int s.1, .int (0 : Int32)]) (rest := [.int o14]) C k_L_looked (fun l => c_L_looked (E := E) hq17 l) mt_588 [] rfl (by decide) rfl (Nat.le_of_ble_eq_true rfl) ⟨Nat.le_of_ble_eq_true rfl, Nat.le_of_ble_eq_true rfl, Nat.le_of_ble_eq_true rfl, Nat.le_of_ble_eq_true rfl⟩ dL_isRule_182 ?_
        rintro _ _ ⟨rfl, rfl⟩
        show G E X 5 [xo E ax ex0 ex1 (an 0) ex3 ex4 ex5 ex6, sc E an Vn, gu] 0 0 [(0, .ref (ax 0)), (1, .int p1), (3, .int s.1)] [.int o16, .int o14] 185
        refine g_icmp_ne (tgt := 192) C dL_isRule_185 (by decide) (fun c18 => ?_) (fun c18 => ?_)
        · have hf := (f_if hf).2 c18
          refine g_sub (lv2 := []) [] rfl ?_
          exact h192 () hf
        · have hf := (f_if hf).1 c18
          refine g_iconst (v := (1 : Int32)) C dL_isRule_188 (by decide) ?_
          refine g_goto (tgt := 193) C dL_isRule_189 (by decide) ?_
          refine g_sub (lv2 := []) [] rfl ?_
          exact h193 (1 : Int32) hf
  have h76 : ∀ (n : Nat) (s : Int32 × Int32 × Int32), lp (b_L_isRule_76 N Vn ρ p1) n s = some o → G E X 5 [xo E ax ex0 ex1 (an 0) ex3 ex4 ex5 ex6, sc E an Vn, gu] 0 0 [(0, .ref (ax 0)), (1, .int p1), (2, .int s.1), (3, .int s.2.1), (4, .int s.2.2)] [] 76 := by
    refine lp_ind ?_
    intro K76 hK76 s hf
    unfold b_L_isRule_76 at hf
    refine g_iload C dL_isRule_76 4 rfl ?_
    refine g_bipush (v := (8 : Int32)) C dL_isRule_78 (by decide) ?_
    refine g_icmp_ge (tgt := 107) C dL_isRule_80 (by decide) (fun c19 => ?_) (fun c19 => ?_)
    · have hf := (f_if hf).1 c19
      refine g_aload_n C dL_isRule_107 rfl 0 rfl ?_
      obtain ⟨R20, hq22, hf⟩ := bind_s hf
      obtain ⟨b21, ghq22⟩ := hgu _ _ hq22
      obtain ⟨o23, hq24, hf⟩ := bind_s hf
      refine g_callV (As := []) (rest := []) C k_X5_fewest (fun l => c_X5_fewest (E := E) (ax := ax) (ex0 := ex0) (ex1 := ex1) (ex3 := ex3) (ex4 := ex4) (ex5 := ex5) (ex6 := ex6) (an := an) (Vn := Vn) (gu := gu) (bu := b21) (Ru := R20) ghq22 hq24 l) mt_486 [0, 1, 2] rfl (by decide) ⟨_, _, _, _, List.mem_flatten.mpr ⟨_, List.mem_of_getElem? (i := 0) rfl, List.mem_of_getElem? (i := 0) rfl⟩, rfl⟩ rfl (Nat.le_of_ble_eq_true rfl) ⟨Nat.le_of_ble_eq_true rfl, Nat.le_of_ble_eq_true rfl, Nat.le_of_ble_eq_true rfl, Nat.le_of_ble_eq_true rfl⟩ dL_isRule_108 ?_
      rintro _ _ ⟨rfl, rfl⟩
      show G E X 5 [xo E ax ex0 ex1 (an 0) ex3 ex4 ex5 ex6, sc E an Vn, gu] 0 0 [(0, .ref (ax 0)), (1, .int p1), (2, .int s.1), (3, .int s.2.1), (4, .int s.2.2)] [.int o23] 111
      refine g_iload_n C dL_isRule_111 rfl 2 rfl ?_
      refine g_icmp_ne (tgt := 192) C dL_isRule_112 (by decide) (fun c25 => ?_) (fun c25 => ?_)
      · have hf := (f_if hf).2 c25
        refine g_sub (lv2 := []) [] rfl ?_
        exact h192 () hf
      · have hf := (f_if hf).1 c25
        refine g_aload_n C dL_isRule_115 rfl 0 rfl ?_
        refine g_iconst (v := (0 : Int32)) C dL_isRule_116 (by decide) ?_
        obtain ⟨R26, hq28, hf⟩ := bind_s hf
        obtain ⟨b27, ghq28⟩ := hgu _ _ hq28
        obtain ⟨o29, hq30, hf⟩ := bind_s hf
        refine g_callV (As := [.int (0 : Int32)]) (rest := []) C k_X5_rule (fun l => c_X5_rule (E := E) (ax := ax) (ex0 := ex0) (ex1 := ex1) (ex3 := ex3) (ex4 := ex4) (ex5 := ex5) (ex6 := ex6) (an := an) (Vn := Vn) (gu := gu) (bu := b27) (Ru := R26) ghq28 hq30 l) mt_437 [0, 1, 2] rfl (by decide) ⟨_, _, _, _, List.mem_flatten.mpr ⟨_, List.mem_of_getElem? (i := 0) rfl, List.mem_of_getElem? (i := 0) rfl⟩, rfl⟩ rfl (Nat.le_of_ble_eq_true rfl) ⟨Nat.le_of_ble_eq_true rfl, Nat.le_of_ble_eq_true rfl, Nat.le_of_ble_eq_true rfl, Nat.le_of_ble_eq_true rfl⟩ dL_isRule_117 ?_
        rintro _ _ ⟨rfl, rfl⟩
        show G E X 5 [xo E ax ex0 ex1 (an 0) ex3 ex4 ex5 ex6, sc E an Vn, gu] 0 0 [(0, .ref (ax 0)), (1, .int p1), (2, .int s.1), (3, .int s.2.1), (4, .int s.2.2)] [.int o29] 120
        refine g_iload_n C dL_isRule_120 rfl 1 rfl ?_
        refine g_iload_n C dL_isRule_121 rfl 3 rfl ?_
        refine g_iconst (v := (1 : Int32)) C dL_isRule_122 (by decide) ?_
        obtain ⟨o31, hq32, hf⟩ := bind_s hf
        refine g_callS (As := [.int p1, .int s.2.1, .int (1 : Int32)]) (rest := [.int o29]) C k_L_looked (fun l => c_L_looked (E := E) hq32 l) mt_588 [] rfl (by decide) rfl (Nat.le_of_ble_eq_true rfl) ⟨Nat.le_of_ble_eq_true rfl, Nat.le_of_ble_eq_true rfl, Nat.le_of_ble_eq_true rfl, Nat.le_of_ble_eq_true rfl⟩ dL_isRule_123 ?_
        rintro _ _ ⟨rfl, rfl⟩
        show G E X 5 [xo E ax ex0 ex1 (an 0) ex3 ex4 ex5 ex6, sc E an Vn, gu] 0 0 [(0, .ref (ax 0)), (1, .int p1), (2, .int s.1), (3, .int s.2.1), (4, .int s.2.2)] [.int o31, .int o29] 126
        refine g_icmp_ne (tgt := 192) C dL_isRule_126 (by decide) (fun c33 => ?_) (fun c33 => ?_)
        · have hf := (f_if hf).2 c33
          refine g_sub (lv2 := []) [] rfl ?_
          exact h192 () hf
        · have hf := (f_if hf).1 c33
          refine g_aload_n C dL_isRule_129 rfl 0 rfl ?_
          refine g_iconst (v := (1 : Int32)) C dL_isRule_130 (by decide) ?_
          obtain ⟨R34, hq36, hf⟩ := bind_s hf
          obtain ⟨b35, ghq36⟩ := hgu _ _ hq36
          obtain ⟨o37, hq38, hf⟩ := bind_s hf
          refine g_callV (As := [.int (1 : Int32)]) (rest := []) C k_X5_rule (fun l => c_X5_rule (E := E) (ax := ax) (ex0 := ex0) (ex1 := ex1) (ex3 := ex3) (ex4 := ex4) (ex5 := ex5) (ex6 := ex6) (an := an) (Vn := Vn) (gu := gu) (bu := b35) (Ru := R34) ghq36 hq38 l) mt_437 [0, 1, 2] rfl (by decide) ⟨_, _, _, _, List.mem_flatten.mpr ⟨_, List.mem_of_getElem? (i := 0) rfl, List.mem_of_getElem? (i := 0) rfl⟩, rfl⟩ rfl (Nat.le_of_ble_eq_true rfl) ⟨Nat.le_of_ble_eq_true rfl, Nat.le_of_ble_eq_true rfl, Nat.le_of_ble_eq_true rfl, Nat.le_of_ble_eq_true rfl⟩ dL_isRule_131 ?_
          rintro _ _ ⟨rfl, rfl⟩
          show G E X 5 [xo E ax ex0 ex1 (an 0) ex3 ex4 ex5 ex6, sc E an Vn, gu] 0 0 [(0, .ref (ax 0)), (1, .int p1), (2, .int s.1), (3, .int s.2.1), (4, .int s.2.2)] [.int o37] 134
          refine g_iload_n C dL_isRule_134 rfl 1 rfl ?_
          obtain ⟨o39, hq40, hf⟩ := bind_s hf
          refine g_callS (As := [.int p1]) (rest := [.int o37]) C k_L_deep (fun l => c_L_deep (E := E) hq40 l) mt_591 [] rfl (by decide) rfl (Nat.le_of_ble_eq_true rfl) ⟨Nat.le_of_ble_eq_true rfl, Nat.le_of_ble_eq_true rfl, Nat.le_of_ble_eq_true rfl, Nat.le_of_ble_eq_true rfl⟩ dL_isRule_135 ?_
          rintro _ _ ⟨rfl, rfl⟩
          show G E X 5 [xo E ax ex0 ex1 (an 0) ex3 ex4 ex5 ex6, sc E an Vn, gu] 0 0 [(0, .ref (ax 0)), (1, .int p1), (2, .int s.1), (3, .int s.2.1), (4, .int s.2.2)] [.int o39, .int o37] 138
          refine g_icmp_ne (tgt := 192) C dL_isRule_138 (by decide) (fun c41 => ?_) (fun c41 => ?_)
          · have hf := (f_if hf).2 c41
            refine g_sub (lv2 := []) [] rfl ?_
            exact h192 () hf
          · have hf := (f_if hf).1 c41
            refine g_aload_n C dL_isRule_141 rfl 0 rfl ?_
            refine g_iconst (v := (2 : Int32)) C dL_isRule_142 (by decide) ?_
            obtain ⟨R42, hq44, hf⟩ := bind_s hf
            obtain ⟨b43, ghq44⟩ := hgu _ _ hq44
            obtain ⟨o45, hq46, hf⟩ := bind_s hf
            refine g_callV (As := [.int (2 : Int32)]) (rest := []) C k_X5_rule (fun l => c_X5_rule (E := E) (ax := ax) (ex0 := ex0) (ex1 := ex1) (ex3 := ex3) (ex4 := ex4) (ex5 := ex5) (ex6 := ex6) (an := an) (Vn := Vn) (gu := gu) (bu := b43) (Ru := R42) ghq44 hq46 l) mt_437 [0, 1, 2] rfl (by decide) ⟨_, _, _, _, List.mem_flatten.mpr ⟨_, List.mem_of_getElem? (i := 0) rfl, List.mem_of_getElem? (i := 0) rfl⟩, rfl⟩ rfl (Nat.le_of_ble_eq_true rfl) ⟨Nat.le_of_ble_eq_true rfl, Nat.le_of_ble_eq_true rfl, Nat.le_of_ble_eq_true rfl, Nat.le_of_ble_eq_true rfl⟩ dL_isRule_143 ?_
            rintro _ _ ⟨rfl, rfl⟩
            show G E X 5 [xo E ax ex0 ex1 (an 0) ex3 ex4 ex5 ex6, sc E an Vn, gu] 0 0 [(0, .ref (ax 0)), (1, .int p1), (2, .int s.1), (3, .int s.2.1), (4, .int s.2.2)] [.int o45] 146
            refine g_iload_n C dL_isRule_146 rfl 1 rfl ?_
            refine g_iload_n C dL_isRule_147 rfl 3 rfl ?_
            obtain ⟨o47, hq48, hf⟩ := bind_s hf
            refine g_callS (As := [.int p1, .int s.2.1]) (rest := [.int o45]) C k_L_holds (fun l => c_L_holds (E := E) hq48 l) mt_572 [] rfl (by decide) rfl (Nat.le_of_ble_eq_true rfl) ⟨Nat.le_of_ble_eq_true rfl, Nat.le_of_ble_eq_true rfl, Nat.le_of_ble_eq_true rfl, Nat.le_of_ble_eq_true rfl⟩ dL_isRule_148 ?_
            rintro _ _ ⟨rfl, rfl⟩
            show G E X 5 [xo E ax ex0 ex1 (an 0) ex3 ex4 ex5 ex6, sc E an Vn, gu] 0 0 [(0, .ref (ax 0)), (1, .int p1), (2, .int s.1), (3, .int s.2.1), (4, .int s.2.2)] [.int o47, .int o45] 151
            refine g_if_eq (tgt := 158) C dL_isRule_151 (by decide) (fun c49 => ?_) (fun c49 => ?_)
            · have hf := (f_if hf).1 c49
              refine g_iconst (v := (0 : Int32)) C dL_isRule_158 (by decide) ?_
              refine g_sub (lv2 := [(0, .ref (ax 0)), (1, .int p1), (3, .int s.2.1)]) [0, 1, 3] rfl ?_
              exact h159 (s.2.1, o45, (0 : Int32)) hf
            · have hf := (f_if hf).2 c49
              refine g_iconst (v := (1 : Int32)) C dL_isRule_154 (by decide) ?_
              refine g_goto (tgt := 159) C dL_isRule_155 (by decide) ?_
              refine g_sub (lv2 := [(0, .ref (ax 0)), (1, .int p1), (3, .int s.2.1)]) [0, 1, 3] rfl ?_
              exact h159 (s.2.1, o45, (1 : Int32)) hf
    · have hf := (f_if hf).2 c19
      refine g_iload_n C dL_isRule_83 rfl 3 rfl ?_
      refine g_aload_n C dL_isRule_84 rfl 0 rfl ?_
      refine g_iload C dL_isRule_85 4 rfl ?_
      refine g_iconst (v := (2 : Int32)) C dL_isRule_87 (by decide) ?_
      refine g_idiv C dL_isRule_88 (by decide) ?_
      refine g_iload C dL_isRule_89 4 rfl ?_
      refine g_iconst (v := (2 : Int32)) C dL_isRule_91 (by decide) ?_
      refine g_irem C dL_isRule_92 (by decide) ?_
      obtain ⟨o50, hq51, hf⟩ := bind_s hf
      refine g_callV (As := [.int (s.2.2 / (2 : Int32)), .int (s.2.2 - s.2.2 / (2 : Int32) * (2 : Int32))]) (rest := [.int s.2.1]) C k_X5_ofSpot (fun l => c_X5_ofSpot (E := E) (ax := ax) (ex0 := ex0) (ex1 := ex1) (ex3 := ex3) (ex4 := ex4) (ex5 := ex5) (ex6 := ex6) (an := an) (Vn := Vn) hq51 l) mt_433 [0, 1] rfl (by decide) ⟨_, _, _, _, List.mem_flatten.mpr ⟨_, List.mem_of_getElem? (i := 0) rfl, List.mem_of_getElem? (i := 0) rfl⟩, rfl⟩ rfl (Nat.le_of_ble_eq_true rfl) ⟨Nat.le_of_ble_eq_true rfl, Nat.le_of_ble_eq_true rfl, Nat.le_of_ble_eq_true rfl, Nat.le_of_ble_eq_true rfl⟩ dL_isRule_93 ?_
      rintro _ _ ⟨rfl, rfl⟩
      show G E X 5 [xo E ax ex0 ex1 (an 0) ex3 ex4 ex5 ex6, sc E an Vn, gu] 0 0 [(0, .ref (ax 0)), (1, .int p1), (2, .int s.1), (3, .int s.2.1), (4, .int s.2.2)] [.int o50, .int s.2.1] 96
      refine g_iload C dL_isRule_96 4 rfl ?_
      refine g_ishl C dL_isRule_98 ?_
      refine g_ior C dL_isRule_99 ?_
      refine g_istore_n (lv2 := [(3, .int (s.2.1 ||| (o50 <<< (s.2.2 &&& 31)))), (0, .ref (ax 0)), (1, .int p1), (2, .int s.1), (4, .int s.2.2)]) C dL_isRule_100 rfl (by decide) rfl ?_
      refine g_iinc (v := (s.2.2 + (1 : Int32))) (lv2 := [(4, .int (s.2.2 + (1 : Int32))), (3, .int (s.2.1 ||| (o50 <<< (s.2.2 &&& 31)))), (0, .ref (ax 0)), (1, .int p1), (2, .int s.1)]) C dL_isRule_101 4 rfl (ii (by decide)) (by decide) rfl ?_
      refine g_goto (tgt := 76) C dL_isRule_104 (by decide) ?_
      refine g_sub (lv2 := [(0, .ref (ax 0)), (1, .int p1), (2, .int s.1), (3, .int (s.2.1 ||| (o50 <<< (s.2.2 &&& 31)))), (4, .int (s.2.2 + (1 : Int32)))]) [2, 3, 4, 1, 0] rfl ?_
      exact hK76 (s.1, (s.2.1 ||| (o50 <<< (s.2.2 &&& 31))), (s.2.2 + (1 : Int32))) hf
  have h64 : ∀ (K5 : (Int32 × Int32) → Option (Int32)), (∀ s : Int32 × Int32, K5 s = some o → G E X 5 [xo E ax ex0 ex1 (an 0) ex3 ex4 ex5 ex6, sc E an Vn, gu] 0 0 [(0, .ref (ax 0)), (1, .int p1), (2, .int s.1), (3, .int s.2)] [] 5) → ∀ s : Int32 × Int32, b_L_isRule_64 N Vn ρ p1 K5 s = some o → G E X 5 [xo E ax ex0 ex1 (an 0) ex3 ex4 ex5 ex6, sc E an Vn, gu] 0 0 [(0, .ref (ax 0)), (1, .int p1), (3, .int s.1)] [.int s.2] 64 := by
    intro K5 hK5 s hf
    unfold b_L_isRule_64 at hf
    refine g_istore_n (lv2 := [(2, .int s.2), (0, .ref (ax 0)), (1, .int p1), (3, .int s.1)]) C dL_isRule_64 rfl (by decide) rfl ?_
    refine g_iinc (v := (s.1 + (1 : Int32))) (lv2 := [(3, .int (s.1 + (1 : Int32))), (2, .int s.2), (0, .ref (ax 0)), (1, .int p1)]) C dL_isRule_65 3 rfl (ii (by decide)) (by decide) rfl ?_
    refine g_goto (tgt := 5) C dL_isRule_68 (by decide) ?_
    refine g_sub (lv2 := [(0, .ref (ax 0)), (1, .int p1), (2, .int s.2), (3, .int (s.1 + (1 : Int32)))]) [2, 3, 1, 0] rfl ?_
    exact hK5 (s.2, (s.1 + (1 : Int32))) hf
  have h63 : ∀ (K5 : (Int32 × Int32) → Option (Int32)), (∀ s : Int32 × Int32, K5 s = some o → G E X 5 [xo E ax ex0 ex1 (an 0) ex3 ex4 ex5 ex6, sc E an Vn, gu] 0 0 [(0, .ref (ax 0)), (1, .int p1), (2, .int s.1), (3, .int s.2)] [] 5) → ∀ s : Int32 × Int32, b_L_isRule_63 N Vn ρ p1 K5 s = some o → G E X 5 [xo E ax ex0 ex1 (an 0) ex3 ex4 ex5 ex6, sc E an Vn, gu] 0 0 [(0, .ref (ax 0)), (1, .int p1), (2, .int s.1), (3, .int s.2)] [] 63 := by
    intro K5 hK5 s hf
    unfold b_L_isRule_63 at hf
    refine g_iload_n C dL_isRule_63 rfl 2 rfl ?_
    refine g_sub (lv2 := [(0, .ref (ax 0)), (1, .int p1), (3, .int s.2)]) [0, 1, 3] rfl ?_
    exact h64 K5 hK5 (s.2, s.1) hf
  have h59 : ∀ (K5 : (Int32 × Int32) → Option (Int32)), (∀ s : Int32 × Int32, K5 s = some o → G E X 5 [xo E ax ex0 ex1 (an 0) ex3 ex4 ex5 ex6, sc E an Vn, gu] 0 0 [(0, .ref (ax 0)), (1, .int p1), (2, .int s.1), (3, .int s.2)] [] 5) → ∀ s : Int32, b_L_isRule_59 N Vn ρ p1 K5 s = some o → G E X 5 [xo E ax ex0 ex1 (an 0) ex3 ex4 ex5 ex6, sc E an Vn, gu] 0 0 [(0, .ref (ax 0)), (1, .int p1), (3, .int s)] [] 59 := by
    intro K5 hK5 s hf
    unfold b_L_isRule_59 at hf
    refine g_iload_n C dL_isRule_59 rfl 2 rfl ?_
    refine g_goto (tgt := 64) C dL_isRule_60 (by decide) ?_
    exact h64 K5 hK5 (s, s) hf
  have h34 : ∀ (K5 : (Int32 × Int32) → Option (Int32)), (∀ s : Int32 × Int32, K5 s = some o → G E X 5 [xo E ax ex0 ex1 (an 0) ex3 ex4 ex5 ex6, sc E an Vn, gu] 0 0 [(0, .ref (ax 0)), (1, .int p1), (2, .int s.1), (3, .int s.2)] [] 5) → ∀ s : Int32 × Int32 × Int32 × Int32 × Int32, b_L_isRule_34 N Vn ρ p1 K5 s = some o → G E X 5 [xo E ax ex0 ex1 (an 0) ex3 ex4 ex5 ex6, sc E an Vn, gu] 0 0 [(0, .ref (ax 0)), (1, .int p1), (2, .int s.1), (3, .int s.2.1), (4, .int s.2.2.1)] [.int s.2.2.2.2, .int s.2.2.2.1] 34 := by
    intro K5 hK5 s hf
    unfold b_L_isRule_34 at hf
    refine g_icmp_eq (tgt := 39) C dL_isRule_34 (by decide) (fun c52 => ?_) (fun c52 => ?_)
    · have hf := (f_if hf).1 c52
      refine g_iload C dL_isRule_39 4 rfl ?_
      refine g_if_eq (tgt := 63) C dL_isRule_41 (by decide) (fun c53 => ?_) (fun c53 => ?_)
      · have hf := (f_if hf).1 c53
        refine g_sub (lv2 := [(0, .ref (ax 0)), (1, .int p1), (2, .int s.1), (3, .int s.2.1)]) [0, 1, 2, 3] rfl ?_
        exact h63 K5 hK5 (s.1, s.2.1) hf
      · have hf := (f_if hf).2 c53
        refine g_iload_n C dL_isRule_44 rfl 2 rfl ?_
        refine g_if_lt (tgt := 59) C dL_isRule_45 (by decide) (fun c54 => ?_) (fun c54 => ?_)
        · have hf := (f_if hf).1 c54
          refine g_sub (lv2 := [(0, .ref (ax 0)), (1, .int p1), (3, .int s.2.1)]) [0, 1, 3] rfl ?_
          exact h59 K5 hK5 s.2.1 hf
        · have hf := (f_if hf).2 c54
          refine g_iload_n C dL_isRule_48 rfl 3 rfl ?_
          obtain ⟨o55, hq56, hf⟩ := bind_s hf
          refine g_callS (As := [.int s.2.1]) (rest := []) C k_L_bits (fun l => c_L_bits (E := E) hq56 l) mt_585 [] rfl (by decide) rfl (Nat.le_of_ble_eq_true rfl) ⟨Nat.le_of_ble_eq_true rfl, Nat.le_of_ble_eq_true rfl, Nat.le_of_ble_eq_true rfl, Nat.le_of_ble_eq_true rfl⟩ dL_isRule_49 ?_
          rintro _ _ ⟨rfl, rfl⟩
          show G E X 5 [xo E ax ex0 ex1 (an 0) ex3 ex4 ex5 ex6, sc E an Vn, gu] 0 0 [(0, .ref (ax 0)), (1, .int p1), (2, .int s.1), (3, .int s.2.1), (4, .int s.2.2.1)] [.int o55] 52
          refine g_iload_n C dL_isRule_52 rfl 2 rfl ?_
          obtain ⟨o57, hq58, hf⟩ := bind_s hf
          refine g_callS (As := [.int s.1]) (rest := [.int o55]) C k_L_bits (fun l => c_L_bits (E := E) hq58 l) mt_585 [] rfl (by decide) rfl (Nat.le_of_ble_eq_true rfl) ⟨Nat.le_of_ble_eq_true rfl, Nat.le_of_ble_eq_true rfl, Nat.le_of_ble_eq_true rfl, Nat.le_of_ble_eq_true rfl⟩ dL_isRule_53 ?_
          rintro _ _ ⟨rfl, rfl⟩
          show G E X 5 [xo E ax ex0 ex1 (an 0) ex3 ex4 ex5 ex6, sc E an Vn, gu] 0 0 [(0, .ref (ax 0)), (1, .int p1), (2, .int s.1), (3, .int s.2.1), (4, .int s.2.2.1)] [.int o57, .int o55] 56
          refine g_icmp_ge (tgt := 63) C dL_isRule_56 (by decide) (fun c59 => ?_) (fun c59 => ?_)
          · have hf := (f_if hf).1 c59
            refine g_sub (lv2 := [(0, .ref (ax 0)), (1, .int p1), (2, .int s.1), (3, .int s.2.1)]) [0, 1, 2, 3] rfl ?_
            exact h63 K5 hK5 (s.1, s.2.1) hf
          · have hf := (f_if hf).2 c59
            refine g_sub (lv2 := [(0, .ref (ax 0)), (1, .int p1), (3, .int s.2.1)]) [0, 1, 3] rfl ?_
            exact h59 K5 hK5 s.2.1 hf
    · have hf := (f_if hf).2 c52
      refine g_iconst (v := (0 : Int32)) C dL_isRule_37 (by decide) ?_
      obtain rfl := Option.some.inj hf
      exact g_zret C K (by decide) dL_isRule_38 (Nat.le_of_ble_eq_true rfl) (Nat.le_of_ble_eq_true rfl) ⟨rfl, rfl⟩
  have h5 : ∀ (n : Nat) (s : Int32 × Int32), lp (b_L_isRule_5 N Vn ρ p1) n s = some o → G E X 5 [xo E ax ex0 ex1 (an 0) ex3 ex4 ex5 ex6, sc E an Vn, gu] 0 0 [(0, .ref (ax 0)), (1, .int p1), (2, .int s.1), (3, .int s.2)] [] 5 := by
    refine lp_ind ?_
    intro K5 hK5 s hf
    unfold b_L_isRule_5 at hf
    refine g_iload_n C dL_isRule_5 rfl 3 rfl ?_
    refine g_sipush (v := (256 : Int32)) C dL_isRule_6 (by decide) ?_
    refine g_icmp_ge (tgt := 71) C dL_isRule_9 (by decide) (fun c60 => ?_) (fun c60 => ?_)
    · have hf := (f_if hf).1 c60
      refine g_iconst (v := (0 : Int32)) C dL_isRule_71 (by decide) ?_
      refine g_istore_n (lv2 := [(3, .int (0 : Int32)), (0, .ref (ax 0)), (1, .int p1), (2, .int s.1)]) C dL_isRule_72 rfl (by decide) rfl ?_
      refine g_iconst (v := (0 : Int32)) C dL_isRule_73 (by decide) ?_
      refine g_istore (lv2 := [(4, .int (0 : Int32)), (3, .int (0 : Int32)), (0, .ref (ax 0)), (1, .int p1), (2, .int s.1)]) C dL_isRule_74 (by decide) rfl ?_
      refine g_sub (lv2 := [(0, .ref (ax 0)), (1, .int p1), (2, .int s.1), (3, .int (0 : Int32)), (4, .int (0 : Int32))]) [2, 3, 4, 1, 0] rfl ?_
      exact h76 N (s.1, (0 : Int32), (0 : Int32)) hf
    · have hf := (f_if hf).2 c60
      refine g_iload_n C dL_isRule_12 rfl 1 rfl ?_
      refine g_iload_n C dL_isRule_13 rfl 3 rfl ?_
      obtain ⟨o61, hq62, hf⟩ := bind_s hf
      refine g_callS (As := [.int p1, .int s.2]) (rest := []) C k_L_holds (fun l => c_L_holds (E := E) hq62 l) mt_572 [] rfl (by decide) rfl (Nat.le_of_ble_eq_true rfl) ⟨Nat.le_of_ble_eq_true rfl, Nat.le_of_ble_eq_true rfl, Nat.le_of_ble_eq_true rfl, Nat.le_of_ble_eq_true rfl⟩ dL_isRule_14 ?_
      rintro _ _ ⟨rfl, rfl⟩
      show G E X 5 [xo E ax ex0 ex1 (an 0) ex3 ex4 ex5 ex6, sc E an Vn, gu] 0 0 [(0, .ref (ax 0)), (1, .int p1), (2, .int s.1), (3, .int s.2)] [.int o61] 17
      refine g_istore (lv2 := [(4, .int o61), (0, .ref (ax 0)), (1, .int p1), (2, .int s.1), (3, .int s.2)]) C dL_isRule_17 (by decide) rfl ?_
      refine g_aload_n C dL_isRule_19 rfl 1 rfl ?_
      refine g_iload_n C dL_isRule_20 rfl 4 rfl ?_
      obtain ⟨R63, hq65, hf⟩ := bind_s hf
      obtain ⟨b64, ghq65⟩ := hgu _ _ hq65
      obtain ⟨o66, hq67, hf⟩ := bind_s hf
      refine g_callV (As := [.int s.2]) (rest := []) C k_X5_wouldHold (fun l => c_X5_wouldHold (E := E) (ax := ax) (ex0 := ex0) (ex1 := ex1) (ex3 := ex3) (ex4 := ex4) (ex5 := ex5) (ex6 := ex6) (an := an) (Vn := Vn) (gu := gu) (bu := b64) (Ru := R63) ghq65 hq67 l) mt_581 [0, 1, 2] rfl (by decide) ⟨_, _, _, _, List.mem_flatten.mpr ⟨_, List.mem_of_getElem? (i := 0) rfl, List.mem_of_getElem? (i := 0) rfl⟩, rfl⟩ rfl (Nat.le_of_ble_eq_true rfl) ⟨Nat.le_of_ble_eq_true rfl, Nat.le_of_ble_eq_true rfl, Nat.le_of_ble_eq_true rfl, Nat.le_of_ble_eq_true rfl⟩ dL_isRule_21 ?_
      rintro _ _ ⟨rfl, rfl⟩
      show G E X 5 [xo E ax ex0 ex1 (an 0) ex3 ex4 ex5 ex6, sc E an Vn, gu] 0 0 [(4, .int o61), (0, .ref (ax 0)), (1, .int p1), (2, .int s.1), (3, .int s.2)] [.int o66] 24
      refine g_iload C dL_isRule_24 0 rfl ?_
      refine g_if_eq (tgt := 33) C dL_isRule_26 (by decide) (fun c68 => ?_) (fun c68 => ?_)
      · have hf := (f_if hf).1 c68
        refine g_iconst (v := (0 : Int32)) C dL_isRule_33 (by decide) ?_
        refine g_sub (lv2 := [(0, .ref (ax 0)), (1, .int p1), (2, .int s.1), (3, .int s.2), (4, .int o61)]) [1, 2, 3, 4, 0] rfl ?_
        exact h34 K5 hK5 (s.1, s.2, o61, o66, (0 : Int32)) hf
      · have hf := (f_if hf).2 c68
        refine g_iconst (v := (1 : Int32)) C dL_isRule_29 (by decide) ?_
        refine g_goto (tgt := 34) C dL_isRule_30 (by decide) ?_
        refine g_sub (lv2 := [(0, .ref (ax 0)), (1, .int p1), (2, .int s.1), (3, .int s.2), (4, .int o61)]) [1, 2, 3, 4, 0] rfl ?_
        exact h34 K5 hK5 (s.1, s.2, o61, o66, (1 : Int32)) hf
  unfold f_L_isRule at hf
  refine g_bipush (v := (-6 : Int32)) C dL_isRule_0 (by decide) ?_
  refine g_istore_n (lv2 := [(2, .int (-6 : Int32)), (0, .ref (ax 0)), (1, .int p1)]) C dL_isRule_2 rfl (by decide) rfl ?_
  refine g_iconst (v := (0 : Int32)) C dL_isRule_3 (by decide) ?_
  refine g_istore_n (lv2 := [(3, .int (0 : Int32)), (2, .int (-6 : Int32)), (0, .ref (ax 0)), (1, .int p1)]) C dL_isRule_4 rfl (by decide) rfl ?_
  refine g_sub (lv2 := [(0, .ref (ax 0)), (1, .int p1), (2, .int (-6 : Int32)), (3, .int (0 : Int32))]) [2, 3, 1, 0] rfl ?_
  exact h5 N ((-6 : Int32), (0 : Int32)) hf
