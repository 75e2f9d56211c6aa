/-! THE CLAIM OUT OF ONE WALK OF THE LAW'S BODY. Your part is whole_start (and what it stands on); all else here is the same for every law, but numbers. -/
def R_law : String := "SoftStairsLaw"
def lw_P (b : Addr) (xs : List Int32) (args : Array Value) (s : State) : Prop := args = #[.ref b] ∧ s.IntsAt b xs ∧ xs.length ≤ 2048 ∧ (Jvm.Cond.and given_1 narrow_1).before args s = true
def lw_Q (_ : Array Value) (s : State) (o : Outcome) (t : State) : Prop := o = .returned (some (.int 1)) ∧ Framed s o t [] 600000 7302250
def lw_Z (below : List Frame) (a : Array Value) (s : State) : State → Prop := fun t => ∃ o, t.status = .running ∧ Ended t below o ∧ lw_Q a s o t
/-- the law's own end, with 1 on the stack, nothing written that was there before, its room as the claim has it -/
theorem lw_ret {p : Program} {l : Launch} {e : Env} {s : State} {m : MethodId} {below : List Frame} {meth : Method} {c : Code} {b : Nat} (hx : p.tables.exec = Jvm.exec) (hb : c.code = code) (hr : meth.sig.returnType = ret) (hlocks : meth.locks = false) {pc : Nat} {H : Heap} {ls : Array Slot} (hdg : decode code pc = .ok (.ireturn, 1)) : W p l e room_1 s m #[Value.ref b] below meth c H [] 600000 7302250 (lw_Z below #[Value.ref b] s) (F0 m pc ls [.int 1]) := by
  intro T hT X
  obtain ⟨fs, hret, hrun, hended, hW, hframe⟩ := X.leave (v := some (.int 1)) (hlocks := hlocks) (fun h => by rw [hr] at h; cases h)
  have hmeth' : T.vm.method? m = some meth := X.method'
  refine ⟨T.setFrames fs, ?_, .returned (some (.int 1)), hrun, hended, rfl, ⟨_, rfl⟩, hW, hframe⟩
  jvm_step X.here [X.here.top, hx, hb, hdg, hmeth', hr, ret, narrow_b1]
  (try refine ⟨rfl, ?_⟩); (try refine ⟨rfl, ?_⟩)
  first | (intro acts; rw [hret _ acts rfl rfl rfl]) | rw [hret _ _ rfl rfl rfl]
  exact Steps.refl _
/-- what holds at the law's entry: the machine, the code, the tables' words (any of lw_tbl by 'hts w (by decide +kernel)'), the script of L ints xs at the cell b, what the Statement gives of the start (any of its parts by flat_of_before) -/
def lw_At (p : Program) (s : State) (m : MethodId) (meth : Method) (c : Code) (b L : Nat) (xs : Nat → Int32) : Prop :=
  p.tables.exec = Jvm.exec ∧ c.code = code ∧ meth.sig.returnType = ret ∧ c.maxLocals = 4 ∧ s.vm.findClass R_law = some m.cls ∧ (∀ w ∈ lw_tbl, w.before #[Value.ref b] s = true) ∧ va_X b L xs s s.heap ∧ b < s.heap.size ∧ meth.locks = false ∧ (Jvm.Cond.and given_1 narrow_1).before #[Value.ref b] s = true
def Sx (X : Cx) (b L : Nat) (xs : Nat → Int32) : Prop := match X with
  | (_, _, _, _, s, _, _, _, _, _, A, _) => va_X b L xs s s.heap ∧ b < s.heap.size ∧ ¬ A b
def Lx (X : Cx) (b : Nat) : Prop := match X with
  | (_, _, _, R, s, _, args, below, meth, _, A, Q) => R = room_1 ∧ args = #[Value.ref b] ∧ A = (fun q => s.heap.size ≤ q) ∧ Q = lw_Z below #[Value.ref b] s ∧ meth.sig.returnType = ret ∧ meth.locks = false
def RIn (E : Ev) (g : va_W) (r : Nat) (R : Ru) : Prop := ∃ b : Nat → Nat, ∀ c ∈ ru E r b R, c ∈ g
section LR
variable {E : Ev} {X : Cx} {cc : ByteArray} {own : String} {rm : Room} {mL : Nat} {Y : List va_W} {k n : Nat} {lv : List (Nat × Value)} {rest st : List Value} {pc : Nat} {b L : Nat} {xs : Nat → Int32}
theorem g_sld {z : Int32} (C : Ct E X cc own rm mL) (S : Sx X b L xs) (hin : vp_in z L) (hd : decode cc pc = .ok (.iaload, 1)) (kk : G E X mL Y k n lv (.int (xs z.toNatClampNeg) :: rest) (pc + 1)) : G E X mL Y k n lv (.int z :: .ref b :: rest) pc := by
  obtain ⟨p, l, e, R, s, m, args, below, meth, c, A, Q⟩ := X
  obtain ⟨hx, hb, hml, hown, hts, hK, hSE, hNE, hS0, hRm⟩ := C
  intro H locs ls hP hD hS hlv
  exact va_sld hx hb S.1 S.2.1 S.2.2 hS hin hd (kk H locs ls hP hD hS hlv)
theorem g_slen (C : Ct E X cc own rm mL) (S : Sx X b L xs) (hd : decode cc pc = .ok (.arraylength, 1)) (kk : G E X mL Y k n lv (.int (Int32.ofNat L) :: rest) (pc + 1)) : G E X mL Y k n lv (.ref b :: rest) pc := by
  obtain ⟨p, l, e, R, s, m, args, below, meth, c, A, Q⟩ := X
  obtain ⟨hx, hb, hml, hown, hts, hK, hSE, hNE, hS0, hRm⟩ := C
  intro H locs ls hP hD hS hlv
  exact va_slen hx hb S.1 S.2.1 S.2.2 hS hd (kk H locs ls hP hD hS hlv)
theorem g_lawret (C : Ct E X cL_law own rm mL) (F : Lx X b) (h1 : k ≤ 600000) (h2 : n ≤ 7302250) (hd : decode cL_law pc = .ok (.ireturn, 1)) : G E X mL Y k n lv [.int 1] pc := by
  obtain ⟨p, l, e, R, s, m, args, below, meth, c, A, Q⟩ := X
  obtain ⟨hx, hb, hml, hown, hts, hK, hSE, hNE, hS0, hRm⟩ := C
  obtain ⟨rfl, rfl, rfl, rfl, hr, hlk⟩ := F
  intro H locs ls hP hD hS hlv
  refine va_forget (fun q hq => hS.2.2 q hq) ?_
  refine W.widen h1 h2 ?_
  exact lw_ret hx hb hr hlk hd
theorem g_dist (kk : Y.flatten.Pairwise (fun p q => p.1 ≠ q.1) → G E X mL Y k n lv st pc) : G E X mL Y k n lv st pc := by
  obtain ⟨p, l, e, R, s, m, args, below, meth, c, A, Q⟩ := X
  intro H locs ls hP hD hS hlv
  exact kk (D_iff.mp hD).1 H locs ls hP hD hS hlv
end LR
theorem dist2 {Y : List va_W} (h : Y.flatten.Pairwise (fun p q => p.1 ≠ q.1)) {i j : Nat} (hij : i < j) {g1 g2 : va_W} (h1 : Y[i]? = some g1) (h2 : Y[j]? = some g2) {c1 c2 : Nat × va_E} (m1 : c1 ∈ g1) (m2 : c2 ∈ g2) : c1.1 ≠ c2.1 := by
  have h3 := (List.pairwise_flatten.mp h).2
  obtain ⟨li, ei⟩ := List.getElem?_eq_some_iff.mp h1
  obtain ⟨lj, ej⟩ := List.getElem?_eq_some_iff.mp h2
  have h4 := List.pairwise_iff_getElem.mp h3 i j li lj hij
  rw [ei, ej] at h4
  exact h4 c1 m1 c2 m2
theorem law_in {L i : Nat} {x3 : Int32} (hL : L ≤ 2048) (hi : i ≤ L) (hx : x3 = nI i) (c : ¬ Int32.ofNat L - (4 : Int32) < x3) : i + 4 ≤ L := by
  subst hx
  apply Nat.le_of_not_lt
  intro h
  apply c
  show nI L - nI 4 < nI i
  rw [Int32.lt_iff_toInt_lt, pk_sub_toInt (by omega) (by omega), nI_toInt (by omega)]
  omega
set_option maxHeartbeats 8000000 in
set_option maxRecDepth 100000 in
theorem law_loop {E : Ev} {X : Cx} {b L : Nat} {xs : Nat → Int32} (C : Ct E X cL_law RL room_1 4) (hSx : Sx X b L xs) (hLx : Lx X b) (hL : L ≤ 2048) (N : Nat) (hN : 5000 ≤ N) (ax ap ad an am ah ak0 ak1 ak2 ak3 ak4 ak5 aq as0 as1 az ay : Nat → Nat) :
    ∀ (f i : Nat) (x3 : Int32) (k n : Nat) (gu : va_W) (ρ : Nat → Ru) (RS : Nat → Prop) (Vp : Pd) (Vd : Rd) (Vn : St) (Vm : St) (Vh : Hb) (Vk0 : St) (Vk1 : St) (Vk2 : St) (Vk3 : St) (Vk4 : St) (Vk5 : St) (Vs0 : St) (Vs1 : St) (Vz : Fn) (M : Md), i ≤ L → L + 1 ≤ i + f → x3 = nI i → k ≤ 1000 + 2 * i → n ≤ 10000 + 62 * i → (∀ r, RS r → RIn E gu r (ρ r)) → RelS ρ RS (Vp, Vd, Vn, Vm, Vh, Vk0, Vk1, Vk2, Vk3, Vk4, Vk5, Vs0, Vs1, Vz) M → G E X 4 [xo E ax (ap 0) (ad 0) (an 0) (am 0) (ah 0) (aq 0) (az 0), pd E ap Vp, rd E ad Vd, sc E an Vn, sc E am Vm, hb E ah (ak0 0) (ak1 0) (ak2 0) (ak3 0) (ak4 0) (ak5 0) Vh, sc E ak0 Vk0, sc E ak1 Vk1, sc E ak2 Vk2, sc E ak3 Vk3, sc E ak4 Vk4, sc E ak5 Vk5, qa E aq (as0 0) (as1 0), sc E as0 Vs0, sc E as1 Vs1, za E az Vz, gu, md E ay M] k n [(0, .ref b), (1, .ref (ax 0)), (2, .ref (ay 0)), (3, .int x3)] [] 18 := by
  intro f
  induction f with
  | zero =>
    intro i x3 k n gu ρ RS Vp Vd Vn Vm Vh Vk0 Vk1 Vk2 Vk3 Vk4 Vk5 Vs0 Vs1 Vz M h1 h2
    exact absurd h2 (by omega)
  | succ f ih =>
    intro i x3 k n gu ρ RS Vp Vd Vn Vm Vh Vk0 Vk1 Vk2 Vk3 Vk4 Vk5 Vs0 Vs1 Vz M hi hif hx3 hk hn hRI H
    have hrs := H.1.2
    obtain ⟨bu, hgu⟩ := hRI _ hrs
    refine g_iload_n C dL_law_18 rfl 3 rfl ?_
    refine g_aload_n C dL_law_19 rfl 0 rfl ?_
    refine g_slen C hSx dL_law_20 ?_
    refine g_iconst (v := (4 : Int32)) C dL_law_21 (by decide) ?_
    refine g_isub C dL_law_22 ?_
    refine g_icmp_gt (tgt := 675) C dL_law_23 (by decide) (fun _ => ?_) (fun c0 => ?_)
    · refine g_iconst (v := (1 : Int32)) C dL_law_675 (by decide) ?_
      exact g_lawret C hLx (by omega) (by omega) dL_law_676
    · have hi4 : i + 4 ≤ L := law_in hL hi hx3 c0
      have hf4 : L + 1 ≤ i + 4 + f := by omega
      have hx4 : x3 + (4 : Int32) = nI (i + 4) := by rw [hx3]; exact nI_add i 4
      have hin0 : vp_in x3 L := by rw [hx3]; exact vp_in_nI (by omega) (by omega)
      have hin1 : vp_in (x3 + (1 : Int32)) L := by rw [hx3, show nI i + (1 : Int32) = nI (i + 1) from nI_add i 1]; exact vp_in_nI (by omega) (by omega)
      have hin2 : vp_in (x3 + (2 : Int32)) L := by rw [hx3, show nI i + (2 : Int32) = nI (i + 2) from nI_add i 2]; exact vp_in_nI (by omega) (by omega)
      have hin3 : vp_in (x3 + (3 : Int32)) L := by rw [hx3, show nI i + (3 : Int32) = nI (i + 3) from nI_add i 3]; exact vp_in_nI (by omega) (by omega)
      have hroom1 : k + 5 ≤ room_1.cells := by show k + 5 ≤ 600000; omega
      have hroom2 : n + 246 ≤ room_1.slots := by show n + 246 ≤ 7302250; omega
      have hk0 : k + 0 ≤ room_1.cells := by show k ≤ 600000; omega
      have hn0 : n + 0 ≤ room_1.slots := by show n ≤ 7302250; omega
      refine g_aload_n C dL_law_26 rfl 0 rfl ?_
      refine g_iload_n C dL_law_27 rfl 3 rfl ?_
      refine g_sld C hSx hin0 dL_law_28 ?_
      refine g_bipush (v := (31 : Int32)) C dL_law_29 (by decide) ?_
      refine g_iand C dL_law_31 ?_
      by_cases e0 : (xs (Int32.toNatClampNeg x3)) &&& (31 : Int32) = (0 : Int32)
      · obtain ⟨o1, o2, h1, h2, he, hR⟩ := st_set hN H (xs (Int32.toNatClampNeg (x3 + (1 : Int32)))) (xs (Int32.toNatClampNeg (x3 + (2 : Int32))))
        refine g_tin (tgt := 140) C dL_law_32 (by rw [e0] <;> decide) (by rw [e0] <;> decide) (by rw [e0] <;> rfl) (by decide) ?_
        refine g_aload_n C dL_law_140 rfl 1 rfl ?_
        refine g_aload_n C dL_law_141 rfl 0 rfl ?_
        refine g_iload_n C dL_law_142 rfl 3 rfl ?_
        refine g_iconst (v := (1 : Int32)) C dL_law_143 (by decide) ?_
        refine g_iadd C dL_law_144 ?_
        refine g_sld C hSx hin1 dL_law_145 ?_
        refine g_aload_n C dL_law_146 rfl 0 rfl ?_
        refine g_iload_n C dL_law_147 rfl 3 rfl ?_
        refine g_iconst (v := (2 : Int32)) C dL_law_148 (by decide) ?_
        refine g_iadd C dL_law_149 ?_
        refine g_sld C hSx hin2 dL_law_150 ?_
        refine g_callV (As := [.int (xs (Int32.toNatClampNeg (x3 + (1 : Int32)))), .int (xs (Int32.toNatClampNeg (x3 + (2 : Int32))))]) (rest := []) C k_X5_set (fun l => c_X5_set (E := E) (ax := ax) (ex0 := (ap 0)) (ex1 := (ad 0)) (ex3 := (am 0)) (ex5 := (aq 0)) (ex6 := (az 0)) (an := an) (Vn := Vn) (ah := ah) (Vh := Vh) (ak0 := ak0) (Vk0 := Vk0) (ak1 := ak1) (Vk1 := Vk1) (ak2 := ak2) (Vk2 := Vk2) (ak3 := ak3) (Vk3 := Vk3) (ak4 := ak4) (Vk4 := Vk4) (ak5 := ak5) (Vk5 := Vk5) h1 l) mt_320 [0, 3, 5, 6, 7, 8, 9, 10, 11] rfl (by decide) ⟨_, _, _, _, List.mem_flatten.mpr ⟨_, List.mem_of_getElem? (i := 0) rfl, List.mem_of_getElem? (i := 0) rfl⟩, rfl⟩ rfl (Nat.le_of_ble_eq_true rfl) ⟨Nat.le_of_ble_eq_true rfl, Nat.le_of_ble_eq_true rfl, hk0, hn0⟩ dL_law_151 ?_
        rintro _ _ ⟨rfl, rfl⟩
        show G E X 4 [xo E ax (ap 0) (ad 0) (an 0) (am 0) (ah 0) (aq 0) (az 0), pd E ap Vp, rd E ad Vd, sc E an o1.2.1, sc E am Vm, hb E ah (ak0 0) (ak1 0) (ak2 0) (ak3 0) (ak4 0) (ak5 0) o1.2.2.1, sc E ak0 o1.2.2.2.1, sc E ak1 o1.2.2.2.2.1, sc E ak2 o1.2.2.2.2.2.1, sc E ak3 o1.2.2.2.2.2.2.1, sc E ak4 o1.2.2.2.2.2.2.2.1, sc E ak5 o1.2.2.2.2.2.2.2.2, qa E aq (as0 0) (as1 0), sc E as0 Vs0, sc E as1 Vs1, za E az Vz, gu, md E ay M] k n [(0, .ref b), (1, .ref (ax 0)), (2, .ref (ay 0)), (3, .int x3)] [.int o1.1] 154
        refine g_aload_n C dL_law_154 rfl 2 rfl ?_
        refine g_aload_n C dL_law_155 rfl 0 rfl ?_
        refine g_iload_n C dL_law_156 rfl 3 rfl ?_
        refine g_iconst (v := (1 : Int32)) C dL_law_157 (by decide) ?_
        refine g_iadd C dL_law_158 ?_
        refine g_sld C hSx hin1 dL_law_159 ?_
        refine g_aload_n C dL_law_160 rfl 0 rfl ?_
        refine g_iload_n C dL_law_161 rfl 3 rfl ?_
        refine g_iconst (v := (2 : Int32)) C dL_law_162 (by decide) ?_
        refine g_iadd C dL_law_163 ?_
        refine g_sld C hSx hin2 dL_law_164 ?_
        refine g_callV (As := [.int (xs (Int32.toNatClampNeg (x3 + (1 : Int32)))), .int (xs (Int32.toNatClampNeg (x3 + (2 : Int32))))]) (rest := [.int o1.1]) C k_X6_set (fun l => c_X6_set (E := E) (a := ay) (V := M) h2 l) mt_688 [17] rfl (by decide) ⟨_, _, _, _, List.mem_flatten.mpr ⟨_, List.mem_of_getElem? (i := 17) rfl, List.mem_of_getElem? (i := 0) rfl⟩, rfl⟩ rfl (Nat.le_of_ble_eq_true rfl) ⟨Nat.le_of_ble_eq_true rfl, Nat.le_of_ble_eq_true rfl, hk0, hn0⟩ dL_law_165 ?_
        rintro _ _ ⟨rfl, rfl⟩
        show G E X 4 [xo E ax (ap 0) (ad 0) (an 0) (am 0) (ah 0) (aq 0) (az 0), pd E ap Vp, rd E ad Vd, sc E an o1.2.1, sc E am Vm, hb E ah (ak0 0) (ak1 0) (ak2 0) (ak3 0) (ak4 0) (ak5 0) o1.2.2.1, sc E ak0 o1.2.2.2.1, sc E ak1 o1.2.2.2.2.1, sc E ak2 o1.2.2.2.2.2.1, sc E ak3 o1.2.2.2.2.2.2.1, sc E ak4 o1.2.2.2.2.2.2.2.1, sc E ak5 o1.2.2.2.2.2.2.2.2, qa E aq (as0 0) (as1 0), sc E as0 Vs0, sc E as1 Vs1, za E az Vz, gu, md E ay o2.2] k n [(0, .ref b), (1, .ref (ax 0)), (2, .ref (ay 0)), (3, .int x3)] [.int o2.1, .int o1.1] 168
        refine g_icmp_eq (tgt := 669) C dL_law_168 (by decide) (fun _ => ?_) (fun c => absurd he c)
        refine g_iinc (v := (x3 + (4 : Int32))) (lv2 := [(3, .int (x3 + (4 : Int32))), (0, .ref b), (1, .ref (ax 0)), (2, .ref (ay 0))]) C dL_law_669 3 rfl (ii (by decide)) (by decide) rfl ?_
        refine g_goto (tgt := 18) C dL_law_672 (by decide) ?_
        refine g_sub (lv2 := [(0, .ref b), (1, .ref (ax 0)), (2, .ref (ay 0)), (3, .int (x3 + (4 : Int32)))]) [1, 2, 3, 0] rfl ?_
        exact ih (i + 4) (x3 + (4 : Int32)) k n gu ρ RS Vp Vd o1.2.1 Vm o1.2.2.1 o1.2.2.2.1 o1.2.2.2.2.1 o1.2.2.2.2.2.1 o1.2.2.2.2.2.2.1 o1.2.2.2.2.2.2.2.1 o1.2.2.2.2.2.2.2.2 Vs0 Vs1 Vz o2.2 hi4 hf4 hx4 (by omega) (by omega) hRI hR
      by_cases e1 : (xs (Int32.toNatClampNeg x3)) &&& (31 : Int32) = (1 : Int32)
      · obtain ⟨o1, o2, h1, h2, he, hR⟩ := st_come hN H (xs (Int32.toNatClampNeg (x3 + (1 : Int32))))
        refine g_tin (tgt := 173) C dL_law_32 (by rw [e1] <;> decide) (by rw [e1] <;> decide) (by rw [e1] <;> rfl) (by decide) ?_
        refine g_aload_n C dL_law_173 rfl 1 rfl ?_
        refine g_aload_n C dL_law_174 rfl 0 rfl ?_
        refine g_iload_n C dL_law_175 rfl 3 rfl ?_
        refine g_iconst (v := (1 : Int32)) C dL_law_176 (by decide) ?_
        refine g_iadd C dL_law_177 ?_
        refine g_sld C hSx hin1 dL_law_178 ?_
        refine g_callV (As := [.int (xs (Int32.toNatClampNeg (x3 + (1 : Int32))))]) (rest := []) C k_X5_come (fun l => c_X5_come (E := E) (ax := ax) (ex0 := (ap 0)) (ex1 := (ad 0)) (ex3 := (am 0)) (ex5 := (aq 0)) (ex6 := (az 0)) (an := an) (Vn := Vn) (ah := ah) (Vh := Vh) (ak0 := ak0) (Vk0 := Vk0) (ak1 := ak1) (Vk1 := Vk1) (ak2 := ak2) (Vk2 := Vk2) (ak3 := ak3) (Vk3 := Vk3) (ak4 := ak4) (Vk4 := Vk4) (ak5 := ak5) (Vk5 := Vk5) h1 l) mt_339 [0, 3, 5, 6, 7, 8, 9, 10, 11] rfl (by decide) ⟨_, _, _, _, List.mem_flatten.mpr ⟨_, List.mem_of_getElem? (i := 0) rfl, List.mem_of_getElem? (i := 0) rfl⟩, rfl⟩ rfl (Nat.le_of_ble_eq_true rfl) ⟨Nat.le_of_ble_eq_true rfl, Nat.le_of_ble_eq_true rfl, hk0, hn0⟩ dL_law_179 ?_
        rintro _ _ ⟨rfl, rfl⟩
        show G E X 4 [xo E ax (ap 0) (ad 0) (an 0) (am 0) (ah 0) (aq 0) (az 0), pd E ap Vp, rd E ad Vd, sc E an o1.2.1, sc E am Vm, hb E ah (ak0 0) (ak1 0) (ak2 0) (ak3 0) (ak4 0) (ak5 0) o1.2.2.1, sc E ak0 o1.2.2.2.1, sc E ak1 o1.2.2.2.2.1, sc E ak2 o1.2.2.2.2.2.1, sc E ak3 o1.2.2.2.2.2.2.1, sc E ak4 o1.2.2.2.2.2.2.2.1, sc E ak5 o1.2.2.2.2.2.2.2.2, qa E aq (as0 0) (as1 0), sc E as0 Vs0, sc E as1 Vs1, za E az Vz, gu, md E ay M] k n [(0, .ref b), (1, .ref (ax 0)), (2, .ref (ay 0)), (3, .int x3)] [.int o1.1] 182
        refine g_aload_n C dL_law_182 rfl 2 rfl ?_
        refine g_aload_n C dL_law_183 rfl 0 rfl ?_
        refine g_iload_n C dL_law_184 rfl 3 rfl ?_
        refine g_iconst (v := (1 : Int32)) C dL_law_185 (by decide) ?_
        refine g_iadd C dL_law_186 ?_
        refine g_sld C hSx hin1 dL_law_187 ?_
        refine g_callV (As := [.int (xs (Int32.toNatClampNeg (x3 + (1 : Int32))))]) (rest := [.int o1.1]) C k_X6_come (fun l => c_X6_come (E := E) (a := ay) (V := M) h2 l) mt_698 [17] rfl (by decide) ⟨_, _, _, _, List.mem_flatten.mpr ⟨_, List.mem_of_getElem? (i := 17) rfl, List.mem_of_getElem? (i := 0) rfl⟩, rfl⟩ rfl (Nat.le_of_ble_eq_true rfl) ⟨Nat.le_of_ble_eq_true rfl, Nat.le_of_ble_eq_true rfl, hk0, hn0⟩ dL_law_188 ?_
        rintro _ _ ⟨rfl, rfl⟩
        show G E X 4 [xo E ax (ap 0) (ad 0) (an 0) (am 0) (ah 0) (aq 0) (az 0), pd E ap Vp, rd E ad Vd, sc E an o1.2.1, sc E am Vm, hb E ah (ak0 0) (ak1 0) (ak2 0) (ak3 0) (ak4 0) (ak5 0) o1.2.2.1, sc E ak0 o1.2.2.2.1, sc E ak1 o1.2.2.2.2.1, sc E ak2 o1.2.2.2.2.2.1, sc E ak3 o1.2.2.2.2.2.2.1, sc E ak4 o1.2.2.2.2.2.2.2.1, sc E ak5 o1.2.2.2.2.2.2.2.2, qa E aq (as0 0) (as1 0), sc E as0 Vs0, sc E as1 Vs1, za E az Vz, gu, md E ay o2.2] k n [(0, .ref b), (1, .ref (ax 0)), (2, .ref (ay 0)), (3, .int x3)] [.int o2.1, .int o1.1] 191
        refine g_icmp_eq (tgt := 669) C dL_law_191 (by decide) (fun _ => ?_) (fun c => absurd he c)
        refine g_iinc (v := (x3 + (4 : Int32))) (lv2 := [(3, .int (x3 + (4 : Int32))), (0, .ref b), (1, .ref (ax 0)), (2, .ref (ay 0))]) C dL_law_669 3 rfl (ii (by decide)) (by decide) rfl ?_
        refine g_goto (tgt := 18) C dL_law_672 (by decide) ?_
        refine g_sub (lv2 := [(0, .ref b), (1, .ref (ax 0)), (2, .ref (ay 0)), (3, .int (x3 + (4 : Int32)))]) [1, 2, 3, 0] rfl ?_
        exact ih (i + 4) (x3 + (4 : Int32)) k n gu ρ RS Vp Vd o1.2.1 Vm o1.2.2.1 o1.2.2.2.1 o1.2.2.2.2.1 o1.2.2.2.2.2.1 o1.2.2.2.2.2.2.1 o1.2.2.2.2.2.2.2.1 o1.2.2.2.2.2.2.2.2 Vs0 Vs1 Vz o2.2 hi4 hf4 hx4 (by omega) (by omega) hRI hR
      by_cases e2 : (xs (Int32.toNatClampNeg x3)) &&& (31 : Int32) = (2 : Int32)
      · obtain ⟨o1, o2, h1, h2, he, hR⟩ := st_sense hN H (xs (Int32.toNatClampNeg (x3 + (1 : Int32)))) (xs (Int32.toNatClampNeg (x3 + (2 : Int32)))) (xs (Int32.toNatClampNeg (x3 + (3 : Int32))))
        refine g_tin (tgt := 196) C dL_law_32 (by rw [e2] <;> decide) (by rw [e2] <;> decide) (by rw [e2] <;> rfl) (by decide) ?_
        refine g_aload_n C dL_law_196 rfl 1 rfl ?_
        refine g_aload_n C dL_law_197 rfl 0 rfl ?_
        refine g_iload_n C dL_law_198 rfl 3 rfl ?_
        refine g_iconst (v := (1 : Int32)) C dL_law_199 (by decide) ?_
        refine g_iadd C dL_law_200 ?_
        refine g_sld C hSx hin1 dL_law_201 ?_
        refine g_aload_n C dL_law_202 rfl 0 rfl ?_
        refine g_iload_n C dL_law_203 rfl 3 rfl ?_
        refine g_iconst (v := (2 : Int32)) C dL_law_204 (by decide) ?_
        refine g_iadd C dL_law_205 ?_
        refine g_sld C hSx hin2 dL_law_206 ?_
        refine g_aload_n C dL_law_207 rfl 0 rfl ?_
        refine g_iload_n C dL_law_208 rfl 3 rfl ?_
        refine g_iconst (v := (3 : Int32)) C dL_law_209 (by decide) ?_
        refine g_iadd C dL_law_210 ?_
        refine g_sld C hSx hin3 dL_law_211 ?_
        refine g_callV (As := [.int (xs (Int32.toNatClampNeg (x3 + (1 : Int32)))), .int (xs (Int32.toNatClampNeg (x3 + (2 : Int32)))), .int (xs (Int32.toNatClampNeg (x3 + (3 : Int32))))]) (rest := []) C k_X5_sense (fun l => c_X5_sense (E := E) (ax := ax) (ex0 := (ap 0)) (ex1 := (ad 0)) (ex3 := (am 0)) (ex5 := (aq 0)) (ex6 := (az 0)) (an := an) (Vn := Vn) (ah := ah) (Vh := Vh) (ak0 := ak0) (Vk0 := Vk0) (ak1 := ak1) (Vk1 := Vk1) (ak2 := ak2) (Vk2 := Vk2) (ak3 := ak3) (Vk3 := Vk3) (ak4 := ak4) (Vk4 := Vk4) (ak5 := ak5) (Vk5 := Vk5) h1 l) mt_347 [0, 3, 5, 6, 7, 8, 9, 10, 11] rfl (by decide) ⟨_, _, _, _, List.mem_flatten.mpr ⟨_, List.mem_of_getElem? (i := 0) rfl, List.mem_of_getElem? (i := 0) rfl⟩, rfl⟩ rfl (Nat.le_of_ble_eq_true rfl) ⟨Nat.le_of_ble_eq_true rfl, Nat.le_of_ble_eq_true rfl, hk0, hn0⟩ dL_law_212 ?_
        rintro _ _ ⟨rfl, rfl⟩
        show G E X 4 [xo E ax (ap 0) (ad 0) (an 0) (am 0) (ah 0) (aq 0) (az 0), pd E ap Vp, rd E ad Vd, sc E an o1.2.1, sc E am Vm, hb E ah (ak0 0) (ak1 0) (ak2 0) (ak3 0) (ak4 0) (ak5 0) o1.2.2.1, sc E ak0 o1.2.2.2.1, sc E ak1 o1.2.2.2.2.1, sc E ak2 o1.2.2.2.2.2.1, sc E ak3 o1.2.2.2.2.2.2.1, sc E ak4 o1.2.2.2.2.2.2.2.1, sc E ak5 o1.2.2.2.2.2.2.2.2, qa E aq (as0 0) (as1 0), sc E as0 Vs0, sc E as1 Vs1, za E az Vz, gu, md E ay M] k n [(0, .ref b), (1, .ref (ax 0)), (2, .ref (ay 0)), (3, .int x3)] [.int o1.1] 215
        refine g_aload_n C dL_law_215 rfl 2 rfl ?_
        refine g_aload_n C dL_law_216 rfl 0 rfl ?_
        refine g_iload_n C dL_law_217 rfl 3 rfl ?_
        refine g_iconst (v := (1 : Int32)) C dL_law_218 (by decide) ?_
        refine g_iadd C dL_law_219 ?_
        refine g_sld C hSx hin1 dL_law_220 ?_
        refine g_aload_n C dL_law_221 rfl 0 rfl ?_
        refine g_iload_n C dL_law_222 rfl 3 rfl ?_
        refine g_iconst (v := (2 : Int32)) C dL_law_223 (by decide) ?_
        refine g_iadd C dL_law_224 ?_
        refine g_sld C hSx hin2 dL_law_225 ?_
        refine g_aload_n C dL_law_226 rfl 0 rfl ?_
        refine g_iload_n C dL_law_227 rfl 3 rfl ?_
        refine g_iconst (v := (3 : Int32)) C dL_law_228 (by decide) ?_
        refine g_iadd C dL_law_229 ?_
        refine g_sld C hSx hin3 dL_law_230 ?_
        refine g_callV (As := [.int (xs (Int32.toNatClampNeg (x3 + (1 : Int32)))), .int (xs (Int32.toNatClampNeg (x3 + (2 : Int32)))), .int (xs (Int32.toNatClampNeg (x3 + (3 : Int32))))]) (rest := [.int o1.1]) C k_X6_sense (fun l => c_X6_sense (E := E) (a := ay) (V := M) h2 l) mt_702 [17] rfl (by decide) ⟨_, _, _, _, List.mem_flatten.mpr ⟨_, List.mem_of_getElem? (i := 17) rfl, List.mem_of_getElem? (i := 0) rfl⟩, rfl⟩ rfl (Nat.le_of_ble_eq_true rfl) ⟨Nat.le_of_ble_eq_true rfl, Nat.le_of_ble_eq_true rfl, hk0, hn0⟩ dL_law_231 ?_
        rintro _ _ ⟨rfl, rfl⟩
        show G E X 4 [xo E ax (ap 0) (ad 0) (an 0) (am 0) (ah 0) (aq 0) (az 0), pd E ap Vp, rd E ad Vd, sc E an o1.2.1, sc E am Vm, hb E ah (ak0 0) (ak1 0) (ak2 0) (ak3 0) (ak4 0) (ak5 0) o1.2.2.1, sc E ak0 o1.2.2.2.1, sc E ak1 o1.2.2.2.2.1, sc E ak2 o1.2.2.2.2.2.1, sc E ak3 o1.2.2.2.2.2.2.1, sc E ak4 o1.2.2.2.2.2.2.2.1, sc E ak5 o1.2.2.2.2.2.2.2.2, qa E aq (as0 0) (as1 0), sc E as0 Vs0, sc E as1 Vs1, za E az Vz, gu, md E ay o2.2] k n [(0, .ref b), (1, .ref (ax 0)), (2, .ref (ay 0)), (3, .int x3)] [.int o2.1, .int o1.1] 234
        refine g_icmp_eq (tgt := 669) C dL_law_234 (by decide) (fun _ => ?_) (fun c => absurd he c)
        refine g_iinc (v := (x3 + (4 : Int32))) (lv2 := [(3, .int (x3 + (4 : Int32))), (0, .ref b), (1, .ref (ax 0)), (2, .ref (ay 0))]) C dL_law_669 3 rfl (ii (by decide)) (by decide) rfl ?_
        refine g_goto (tgt := 18) C dL_law_672 (by decide) ?_
        refine g_sub (lv2 := [(0, .ref b), (1, .ref (ax 0)), (2, .ref (ay 0)), (3, .int (x3 + (4 : Int32)))]) [1, 2, 3, 0] rfl ?_
        exact ih (i + 4) (x3 + (4 : Int32)) k n gu ρ RS Vp Vd o1.2.1 Vm o1.2.2.1 o1.2.2.2.1 o1.2.2.2.2.1 o1.2.2.2.2.2.1 o1.2.2.2.2.2.2.1 o1.2.2.2.2.2.2.2.1 o1.2.2.2.2.2.2.2.2 Vs0 Vs1 Vz o2.2 hi4 hf4 hx4 (by omega) (by omega) hRI hR
      by_cases e3 : (xs (Int32.toNatClampNeg x3)) &&& (31 : Int32) = (3 : Int32)
      · obtain ⟨o1, o2, h1, h2, he, hR⟩ := st_stop hN H
        refine g_tin (tgt := 239) C dL_law_32 (by rw [e3] <;> decide) (by rw [e3] <;> decide) (by rw [e3] <;> rfl) (by decide) ?_
        refine g_aload_n C dL_law_239 rfl 1 rfl ?_
        refine g_callV (As := []) (rest := []) C k_X5_stop (fun l => c_X5_stop (E := E) (ax := ax) (ex0 := (ap 0)) (ex1 := (ad 0)) (ex3 := (am 0)) (ex5 := (aq 0)) (ex6 := (az 0)) (an := an) (Vn := Vn) (ah := ah) (Vh := Vh) (ak0 := ak0) (Vk0 := Vk0) (ak1 := ak1) (Vk1 := Vk1) (ak2 := ak2) (Vk2 := Vk2) (ak3 := ak3) (Vk3 := Vk3) (ak4 := ak4) (Vk4 := Vk4) (ak5 := ak5) (Vk5 := Vk5) h1 l) mt_359 [0, 3, 5, 6, 7, 8, 9, 10, 11] rfl (by decide) ⟨_, _, _, _, List.mem_flatten.mpr ⟨_, List.mem_of_getElem? (i := 0) rfl, List.mem_of_getElem? (i := 0) rfl⟩, rfl⟩ rfl (Nat.le_of_ble_eq_true rfl) ⟨Nat.le_of_ble_eq_true rfl, Nat.le_of_ble_eq_true rfl, hk0, hn0⟩ dL_law_240 ?_
        rintro _ _ ⟨rfl, rfl⟩
        show G E X 4 [xo E ax (ap 0) (ad 0) (an 0) (am 0) (ah 0) (aq 0) (az 0), pd E ap Vp, rd E ad Vd, sc E an o1.2.1, sc E am Vm, hb E ah (ak0 0) (ak1 0) (ak2 0) (ak3 0) (ak4 0) (ak5 0) o1.2.2.1, sc E ak0 o1.2.2.2.1, sc E ak1 o1.2.2.2.2.1, sc E ak2 o1.2.2.2.2.2.1, sc E ak3 o1.2.2.2.2.2.2.1, sc E ak4 o1.2.2.2.2.2.2.2.1, sc E ak5 o1.2.2.2.2.2.2.2.2, qa E aq (as0 0) (as1 0), sc E as0 Vs0, sc E as1 Vs1, za E az Vz, gu, md E ay M] k n [(0, .ref b), (1, .ref (ax 0)), (2, .ref (ay 0)), (3, .int x3)] [.int o1.1] 243
        refine g_aload_n C dL_law_243 rfl 2 rfl ?_
        refine g_callV (As := []) (rest := [.int o1.1]) C k_X6_stop (fun l => c_X6_stop (E := E) (a := ay) (V := M) h2 l) mt_709 [17] rfl (by decide) ⟨_, _, _, _, List.mem_flatten.mpr ⟨_, List.mem_of_getElem? (i := 17) rfl, List.mem_of_getElem? (i := 0) rfl⟩, rfl⟩ rfl (Nat.le_of_ble_eq_true rfl) ⟨Nat.le_of_ble_eq_true rfl, Nat.le_of_ble_eq_true rfl, hk0, hn0⟩ dL_law_244 ?_
        rintro _ _ ⟨rfl, rfl⟩
        show G E X 4 [xo E ax (ap 0) (ad 0) (an 0) (am 0) (ah 0) (aq 0) (az 0), pd E ap Vp, rd E ad Vd, sc E an o1.2.1, sc E am Vm, hb E ah (ak0 0) (ak1 0) (ak2 0) (ak3 0) (ak4 0) (ak5 0) o1.2.2.1, sc E ak0 o1.2.2.2.1, sc E ak1 o1.2.2.2.2.1, sc E ak2 o1.2.2.2.2.2.1, sc E ak3 o1.2.2.2.2.2.2.1, sc E ak4 o1.2.2.2.2.2.2.2.1, sc E ak5 o1.2.2.2.2.2.2.2.2, qa E aq (as0 0) (as1 0), sc E as0 Vs0, sc E as1 Vs1, za E az Vz, gu, md E ay o2.2] k n [(0, .ref b), (1, .ref (ax 0)), (2, .ref (ay 0)), (3, .int x3)] [.int o2.1, .int o1.1] 247
        refine g_icmp_eq (tgt := 669) C dL_law_247 (by decide) (fun _ => ?_) (fun c => absurd he c)
        refine g_iinc (v := (x3 + (4 : Int32))) (lv2 := [(3, .int (x3 + (4 : Int32))), (0, .ref b), (1, .ref (ax 0)), (2, .ref (ay 0))]) C dL_law_669 3 rfl (ii (by decide)) (by decide) rfl ?_
        refine g_goto (tgt := 18) C dL_law_672 (by decide) ?_
        refine g_sub (lv2 := [(0, .ref b), (1, .ref (ax 0)), (2, .ref (ay 0)), (3, .int (x3 + (4 : Int32)))]) [1, 2, 3, 0] rfl ?_
        exact ih (i + 4) (x3 + (4 : Int32)) k n gu ρ RS Vp Vd o1.2.1 Vm o1.2.2.1 o1.2.2.2.1 o1.2.2.2.2.1 o1.2.2.2.2.2.1 o1.2.2.2.2.2.2.1 o1.2.2.2.2.2.2.2.1 o1.2.2.2.2.2.2.2.2 Vs0 Vs1 Vz o2.2 hi4 hf4 hx4 (by omega) (by omega) hRI hR
      by_cases e4 : (xs (Int32.toNatClampNeg x3)) &&& (31 : Int32) = (4 : Int32)
      · obtain ⟨o1, o2, h1, h2, he, hR⟩ := st_restart hN H
        refine g_tin (tgt := 252) C dL_law_32 (by rw [e4] <;> decide) (by rw [e4] <;> decide) (by rw [e4] <;> rfl) (by decide) ?_
        refine g_aload_n C dL_law_252 rfl 1 rfl ?_
        refine g_callV (As := []) (rest := []) C k_X5_restart (fun l => c_X5_restart (E := E) (ax := ax) (ex0 := (ap 0)) (ex1 := (ad 0)) (ex3 := (am 0)) (ex5 := (aq 0)) (ex6 := (az 0)) (an := an) (Vn := Vn) (ah := ah) (Vh := Vh) (ak0 := ak0) (Vk0 := Vk0) (ak1 := ak1) (Vk1 := Vk1) (ak2 := ak2) (Vk2 := Vk2) (ak3 := ak3) (Vk3 := Vk3) (ak4 := ak4) (Vk4 := Vk4) (ak5 := ak5) (Vk5 := Vk5) (gu := gu) (bu := bu) (Ru := (ρ Vn.2.2.2.2.2.2.1)) hgu h1 l) mt_371 [0, 3, 5, 6, 7, 8, 9, 10, 11, 16] rfl (by decide) ⟨_, _, _, _, List.mem_flatten.mpr ⟨_, List.mem_of_getElem? (i := 0) rfl, List.mem_of_getElem? (i := 0) rfl⟩, rfl⟩ rfl (Nat.le_of_ble_eq_true rfl) ⟨Nat.le_of_ble_eq_true rfl, Nat.le_of_ble_eq_true rfl, hk0, hn0⟩ dL_law_253 ?_
        rintro _ _ ⟨rfl, rfl⟩
        show G E X 4 [xo E ax (ap 0) (ad 0) (an 0) (am 0) (ah 0) (aq 0) (az 0), pd E ap Vp, rd E ad Vd, sc E an o1.2.1, sc E am Vm, hb E ah (ak0 0) (ak1 0) (ak2 0) (ak3 0) (ak4 0) (ak5 0) o1.2.2.1, sc E ak0 o1.2.2.2.1, sc E ak1 o1.2.2.2.2.1, sc E ak2 o1.2.2.2.2.2.1, sc E ak3 o1.2.2.2.2.2.2.1, sc E ak4 o1.2.2.2.2.2.2.2.1, sc E ak5 o1.2.2.2.2.2.2.2.2, qa E aq (as0 0) (as1 0), sc E as0 Vs0, sc E as1 Vs1, za E az Vz, gu, md E ay M] k n [(0, .ref b), (1, .ref (ax 0)), (2, .ref (ay 0)), (3, .int x3)] [.int o1.1] 256
        refine g_aload_n C dL_law_256 rfl 2 rfl ?_
        refine g_callV (As := []) (rest := [.int o1.1]) C k_X6_restart (fun l => c_X6_restart (E := E) (a := ay) (V := M) h2 l) mt_725 [17] rfl (by decide) ⟨_, _, _, _, List.mem_flatten.mpr ⟨_, List.mem_of_getElem? (i := 17) rfl, List.mem_of_getElem? (i := 0) rfl⟩, rfl⟩ rfl (Nat.le_of_ble_eq_true rfl) ⟨Nat.le_of_ble_eq_true rfl, Nat.le_of_ble_eq_true rfl, hk0, hn0⟩ dL_law_257 ?_
        rintro _ _ ⟨rfl, rfl⟩
        show G E X 4 [xo E ax (ap 0) (ad 0) (an 0) (am 0) (ah 0) (aq 0) (az 0), pd E ap Vp, rd E ad Vd, sc E an o1.2.1, sc E am Vm, hb E ah (ak0 0) (ak1 0) (ak2 0) (ak3 0) (ak4 0) (ak5 0) o1.2.2.1, sc E ak0 o1.2.2.2.1, sc E ak1 o1.2.2.2.2.1, sc E ak2 o1.2.2.2.2.2.1, sc E ak3 o1.2.2.2.2.2.2.1, sc E ak4 o1.2.2.2.2.2.2.2.1, sc E ak5 o1.2.2.2.2.2.2.2.2, qa E aq (as0 0) (as1 0), sc E as0 Vs0, sc E as1 Vs1, za E az Vz, gu, md E ay o2.2] k n [(0, .ref b), (1, .ref (ax 0)), (2, .ref (ay 0)), (3, .int x3)] [.int o2.1, .int o1.1] 260
        refine g_icmp_eq (tgt := 669) C dL_law_260 (by decide) (fun _ => ?_) (fun c => absurd he c)
        refine g_iinc (v := (x3 + (4 : Int32))) (lv2 := [(3, .int (x3 + (4 : Int32))), (0, .ref b), (1, .ref (ax 0)), (2, .ref (ay 0))]) C dL_law_669 3 rfl (ii (by decide)) (by decide) rfl ?_
        refine g_goto (tgt := 18) C dL_law_672 (by decide) ?_
        refine g_sub (lv2 := [(0, .ref b), (1, .ref (ax 0)), (2, .ref (ay 0)), (3, .int (x3 + (4 : Int32)))]) [1, 2, 3, 0] rfl ?_
        exact ih (i + 4) (x3 + (4 : Int32)) k n gu ρ RS Vp Vd o1.2.1 Vm o1.2.2.1 o1.2.2.2.1 o1.2.2.2.2.1 o1.2.2.2.2.2.1 o1.2.2.2.2.2.2.1 o1.2.2.2.2.2.2.2.1 o1.2.2.2.2.2.2.2.2 Vs0 Vs1 Vz o2.2 hi4 hf4 hx4 (by omega) (by omega) hRI hR
      by_cases e5 : (xs (Int32.toNatClampNeg x3)) &&& (31 : Int32) = (5 : Int32)
      · obtain ⟨o1, o2, h1, h2, he, hR⟩ := st_pass hN H (xs (Int32.toNatClampNeg (x3 + (1 : Int32))))
        refine g_tin (tgt := 265) C dL_law_32 (by rw [e5] <;> decide) (by rw [e5] <;> decide) (by rw [e5] <;> rfl) (by decide) ?_
        refine g_aload_n C dL_law_265 rfl 1 rfl ?_
        refine g_aload_n C dL_law_266 rfl 0 rfl ?_
        refine g_iload_n C dL_law_267 rfl 3 rfl ?_
        refine g_iconst (v := (1 : Int32)) C dL_law_268 (by decide) ?_
        refine g_iadd C dL_law_269 ?_
        refine g_sld C hSx hin1 dL_law_270 ?_
        refine g_callV (As := [.int (xs (Int32.toNatClampNeg (x3 + (1 : Int32))))]) (rest := []) C k_X5_pass (fun l => c_X5_pass (E := E) (ax := ax) (ex0 := (ap 0)) (ex1 := (ad 0)) (ex3 := (am 0)) (ex5 := (aq 0)) (ex6 := (az 0)) (an := an) (Vn := Vn) (ah := ah) (Vh := Vh) (ak0 := ak0) (Vk0 := Vk0) (ak1 := ak1) (Vk1 := Vk1) (ak2 := ak2) (Vk2 := Vk2) (ak3 := ak3) (Vk3 := Vk3) (ak4 := ak4) (Vk4 := Vk4) (ak5 := ak5) (Vk5 := Vk5) (gu := gu) (bu := bu) (Ru := (ρ Vn.2.2.2.2.2.2.1)) hgu h1 l) mt_399 [0, 3, 5, 6, 7, 8, 9, 10, 11, 16] rfl (by decide) ⟨_, _, _, _, List.mem_flatten.mpr ⟨_, List.mem_of_getElem? (i := 0) rfl, List.mem_of_getElem? (i := 0) rfl⟩, rfl⟩ rfl (Nat.le_of_ble_eq_true rfl) ⟨Nat.le_of_ble_eq_true rfl, Nat.le_of_ble_eq_true rfl, hk0, hn0⟩ dL_law_271 ?_
        rintro _ _ ⟨rfl, rfl⟩
        show G E X 4 [xo E ax (ap 0) (ad 0) (an 0) (am 0) (ah 0) (aq 0) (az 0), pd E ap Vp, rd E ad Vd, sc E an o1.2.1, sc E am Vm, hb E ah (ak0 0) (ak1 0) (ak2 0) (ak3 0) (ak4 0) (ak5 0) o1.2.2.1, sc E ak0 o1.2.2.2.1, sc E ak1 o1.2.2.2.2.1, sc E ak2 o1.2.2.2.2.2.1, sc E ak3 o1.2.2.2.2.2.2.1, sc E ak4 o1.2.2.2.2.2.2.2.1, sc E ak5 o1.2.2.2.2.2.2.2.2, qa E aq (as0 0) (as1 0), sc E as0 Vs0, sc E as1 Vs1, za E az Vz, gu, md E ay M] k n [(0, .ref b), (1, .ref (ax 0)), (2, .ref (ay 0)), (3, .int x3)] [.int o1.1] 274
        refine g_aload_n C dL_law_274 rfl 2 rfl ?_
        refine g_aload_n C dL_law_275 rfl 0 rfl ?_
        refine g_iload_n C dL_law_276 rfl 3 rfl ?_
        refine g_iconst (v := (1 : Int32)) C dL_law_277 (by decide) ?_
        refine g_iadd C dL_law_278 ?_
        refine g_sld C hSx hin1 dL_law_279 ?_
        refine g_callV (As := [.int (xs (Int32.toNatClampNeg (x3 + (1 : Int32))))]) (rest := [.int o1.1]) C k_X6_pass (fun l => c_X6_pass (E := E) (a := ay) (V := M) h2 l) mt_737 [17] rfl (by decide) ⟨_, _, _, _, List.mem_flatten.mpr ⟨_, List.mem_of_getElem? (i := 17) rfl, List.mem_of_getElem? (i := 0) rfl⟩, rfl⟩ rfl (Nat.le_of_ble_eq_true rfl) ⟨Nat.le_of_ble_eq_true rfl, Nat.le_of_ble_eq_true rfl, hk0, hn0⟩ dL_law_280 ?_
        rintro _ _ ⟨rfl, rfl⟩
        show G E X 4 [xo E ax (ap 0) (ad 0) (an 0) (am 0) (ah 0) (aq 0) (az 0), pd E ap Vp, rd E ad Vd, sc E an o1.2.1, sc E am Vm, hb E ah (ak0 0) (ak1 0) (ak2 0) (ak3 0) (ak4 0) (ak5 0) o1.2.2.1, sc E ak0 o1.2.2.2.1, sc E ak1 o1.2.2.2.2.1, sc E ak2 o1.2.2.2.2.2.1, sc E ak3 o1.2.2.2.2.2.2.1, sc E ak4 o1.2.2.2.2.2.2.2.1, sc E ak5 o1.2.2.2.2.2.2.2.2, qa E aq (as0 0) (as1 0), sc E as0 Vs0, sc E as1 Vs1, za E az Vz, gu, md E ay o2.2] k n [(0, .ref b), (1, .ref (ax 0)), (2, .ref (ay 0)), (3, .int x3)] [.int o2.1, .int o1.1] 283
        refine g_icmp_eq (tgt := 669) C dL_law_283 (by decide) (fun _ => ?_) (fun c => absurd he c)
        refine g_iinc (v := (x3 + (4 : Int32))) (lv2 := [(3, .int (x3 + (4 : Int32))), (0, .ref b), (1, .ref (ax 0)), (2, .ref (ay 0))]) C dL_law_669 3 rfl (ii (by decide)) (by decide) rfl ?_
        refine g_goto (tgt := 18) C dL_law_672 (by decide) ?_
        refine g_sub (lv2 := [(0, .ref b), (1, .ref (ax 0)), (2, .ref (ay 0)), (3, .int (x3 + (4 : Int32)))]) [1, 2, 3, 0] rfl ?_
        exact ih (i + 4) (x3 + (4 : Int32)) k n gu ρ RS Vp Vd o1.2.1 Vm o1.2.2.1 o1.2.2.2.1 o1.2.2.2.2.1 o1.2.2.2.2.2.1 o1.2.2.2.2.2.2.1 o1.2.2.2.2.2.2.2.1 o1.2.2.2.2.2.2.2.2 Vs0 Vs1 Vz o2.2 hi4 hf4 hx4 (by omega) (by omega) hRI hR
      by_cases e6 : (xs (Int32.toNatClampNeg x3)) &&& (31 : Int32) = (6 : Int32)
      · obtain ⟨o1, o2, h1, h2, he, hR⟩ := st_of hN H (xs (Int32.toNatClampNeg (x3 + (1 : Int32)))) (xs (Int32.toNatClampNeg (x3 + (2 : Int32))))
        refine g_tin (tgt := 288) C dL_law_32 (by rw [e6] <;> decide) (by rw [e6] <;> decide) (by rw [e6] <;> rfl) (by decide) ?_
        refine g_aload_n C dL_law_288 rfl 1 rfl ?_
        refine g_aload_n C dL_law_289 rfl 0 rfl ?_
        refine g_iload_n C dL_law_290 rfl 3 rfl ?_
        refine g_iconst (v := (1 : Int32)) C dL_law_291 (by decide) ?_
        refine g_iadd C dL_law_292 ?_
        refine g_sld C hSx hin1 dL_law_293 ?_
        refine g_aload_n C dL_law_294 rfl 0 rfl ?_
        refine g_iload_n C dL_law_295 rfl 3 rfl ?_
        refine g_iconst (v := (2 : Int32)) C dL_law_296 (by decide) ?_
        refine g_iadd C dL_law_297 ?_
        refine g_sld C hSx hin2 dL_law_298 ?_
        refine g_callV (As := [.int (xs (Int32.toNatClampNeg (x3 + (1 : Int32)))), .int (xs (Int32.toNatClampNeg (x3 + (2 : Int32))))]) (rest := []) C k_X5_of (fun l => c_X5_of (E := E) (ax := ax) (ex0 := (ap 0)) (ex1 := (ad 0)) (ex3 := (am 0)) (ex4 := (ah 0)) (ex5 := (aq 0)) (ex6 := (az 0)) (an := an) (Vn := Vn) h1 l) mt_435 [0, 3] rfl (by decide) ⟨_, _, _, _, List.mem_flatten.mpr ⟨_, List.mem_of_getElem? (i := 0) rfl, List.mem_of_getElem? (i := 0) rfl⟩, rfl⟩ rfl (Nat.le_of_ble_eq_true rfl) ⟨Nat.le_of_ble_eq_true rfl, Nat.le_of_ble_eq_true rfl, hk0, hn0⟩ dL_law_299 ?_
        rintro _ _ ⟨rfl, rfl⟩
        show G E X 4 [xo E ax (ap 0) (ad 0) (an 0) (am 0) (ah 0) (aq 0) (az 0), pd E ap Vp, rd E ad Vd, sc E an Vn, sc E am Vm, hb E ah (ak0 0) (ak1 0) (ak2 0) (ak3 0) (ak4 0) (ak5 0) Vh, sc E ak0 Vk0, sc E ak1 Vk1, sc E ak2 Vk2, sc E ak3 Vk3, sc E ak4 Vk4, sc E ak5 Vk5, qa E aq (as0 0) (as1 0), sc E as0 Vs0, sc E as1 Vs1, za E az Vz, gu, md E ay M] k n [(0, .ref b), (1, .ref (ax 0)), (2, .ref (ay 0)), (3, .int x3)] [.int o1] 302
        refine g_aload_n C dL_law_302 rfl 2 rfl ?_
        refine g_aload_n C dL_law_303 rfl 0 rfl ?_
        refine g_iload_n C dL_law_304 rfl 3 rfl ?_
        refine g_iconst (v := (1 : Int32)) C dL_law_305 (by decide) ?_
        refine g_iadd C dL_law_306 ?_
        refine g_sld C hSx hin1 dL_law_307 ?_
        refine g_aload_n C dL_law_308 rfl 0 rfl ?_
        refine g_iload_n C dL_law_309 rfl 3 rfl ?_
        refine g_iconst (v := (2 : Int32)) C dL_law_310 (by decide) ?_
        refine g_iadd C dL_law_311 ?_
        refine g_sld C hSx hin2 dL_law_312 ?_
        refine g_callV (As := [.int (xs (Int32.toNatClampNeg (x3 + (1 : Int32)))), .int (xs (Int32.toNatClampNeg (x3 + (2 : Int32))))]) (rest := [.int o1]) C k_X6_of (fun l => c_X6_of (E := E) (a := ay) (V := M) h2 l) mt_766 [17] rfl (by decide) ⟨_, _, _, _, List.mem_flatten.mpr ⟨_, List.mem_of_getElem? (i := 17) rfl, List.mem_of_getElem? (i := 0) rfl⟩, rfl⟩ rfl (Nat.le_of_ble_eq_true rfl) ⟨Nat.le_of_ble_eq_true rfl, Nat.le_of_ble_eq_true rfl, hk0, hn0⟩ dL_law_313 ?_
        rintro _ _ ⟨rfl, rfl⟩
        show G E X 4 [xo E ax (ap 0) (ad 0) (an 0) (am 0) (ah 0) (aq 0) (az 0), pd E ap Vp, rd E ad Vd, sc E an Vn, sc E am Vm, hb E ah (ak0 0) (ak1 0) (ak2 0) (ak3 0) (ak4 0) (ak5 0) Vh, sc E ak0 Vk0, sc E ak1 Vk1, sc E ak2 Vk2, sc E ak3 Vk3, sc E ak4 Vk4, sc E ak5 Vk5, qa E aq (as0 0) (as1 0), sc E as0 Vs0, sc E as1 Vs1, za E az Vz, gu, md E ay M] k n [(0, .ref b), (1, .ref (ax 0)), (2, .ref (ay 0)), (3, .int x3)] [.int o2, .int o1] 316
        refine g_icmp_eq (tgt := 669) C dL_law_316 (by decide) (fun _ => ?_) (fun c => absurd he c)
        refine g_iinc (v := (x3 + (4 : Int32))) (lv2 := [(3, .int (x3 + (4 : Int32))), (0, .ref b), (1, .ref (ax 0)), (2, .ref (ay 0))]) C dL_law_669 3 rfl (ii (by decide)) (by decide) rfl ?_
        refine g_goto (tgt := 18) C dL_law_672 (by decide) ?_
        refine g_sub (lv2 := [(0, .ref b), (1, .ref (ax 0)), (2, .ref (ay 0)), (3, .int (x3 + (4 : Int32)))]) [1, 2, 3, 0] rfl ?_
        exact ih (i + 4) (x3 + (4 : Int32)) k n gu ρ RS Vp Vd Vn Vm Vh Vk0 Vk1 Vk2 Vk3 Vk4 Vk5 Vs0 Vs1 Vz M hi4 hf4 hx4 (by omega) (by omega) hRI hR
      by_cases e7 : (xs (Int32.toNatClampNeg x3)) &&& (31 : Int32) = (7 : Int32)
      · obtain ⟨o1, o2, h1, h2, he, hR⟩ := st_ofSpot hN H (xs (Int32.toNatClampNeg (x3 + (1 : Int32)))) (xs (Int32.toNatClampNeg (x3 + (2 : Int32))))
        refine g_tin (tgt := 321) C dL_law_32 (by rw [e7] <;> decide) (by rw [e7] <;> decide) (by rw [e7] <;> rfl) (by decide) ?_
        refine g_aload_n C dL_law_321 rfl 1 rfl ?_
        refine g_aload_n C dL_law_322 rfl 0 rfl ?_
        refine g_iload_n C dL_law_323 rfl 3 rfl ?_
        refine g_iconst (v := (1 : Int32)) C dL_law_324 (by decide) ?_
        refine g_iadd C dL_law_325 ?_
        refine g_sld C hSx hin1 dL_law_326 ?_
        refine g_aload_n C dL_law_327 rfl 0 rfl ?_
        refine g_iload_n C dL_law_328 rfl 3 rfl ?_
        refine g_iconst (v := (2 : Int32)) C dL_law_329 (by decide) ?_
        refine g_iadd C dL_law_330 ?_
        refine g_sld C hSx hin2 dL_law_331 ?_
        refine g_callV (As := [.int (xs (Int32.toNatClampNeg (x3 + (1 : Int32)))), .int (xs (Int32.toNatClampNeg (x3 + (2 : Int32))))]) (rest := []) C k_X5_ofSpot (fun l => c_X5_ofSpot (E := E) (ax := ax) (ex0 := (ap 0)) (ex1 := (ad 0)) (ex3 := (am 0)) (ex4 := (ah 0)) (ex5 := (aq 0)) (ex6 := (az 0)) (an := an) (Vn := Vn) h1 l) mt_439 [0, 3] rfl (by decide) ⟨_, _, _, _, List.mem_flatten.mpr ⟨_, List.mem_of_getElem? (i := 0) rfl, List.mem_of_getElem? (i := 0) rfl⟩, rfl⟩ rfl (Nat.le_of_ble_eq_true rfl) ⟨Nat.le_of_ble_eq_true rfl, Nat.le_of_ble_eq_true rfl, hk0, hn0⟩ dL_law_332 ?_
        rintro _ _ ⟨rfl, rfl⟩
        show G E X 4 [xo E ax (ap 0) (ad 0) (an 0) (am 0) (ah 0) (aq 0) (az 0), pd E ap Vp, rd E ad Vd, sc E an Vn, sc E am Vm, hb E ah (ak0 0) (ak1 0) (ak2 0) (ak3 0) (ak4 0) (ak5 0) Vh, sc E ak0 Vk0, sc E ak1 Vk1, sc E ak2 Vk2, sc E ak3 Vk3, sc E ak4 Vk4, sc E ak5 Vk5, qa E aq (as0 0) (as1 0), sc E as0 Vs0, sc E as1 Vs1, za E az Vz, gu, md E ay M] k n [(0, .ref b), (1, .ref (ax 0)), (2, .ref (ay 0)), (3, .int x3)] [.int o1] 335
        refine g_aload_n C dL_law_335 rfl 2 rfl ?_
        refine g_aload_n C dL_law_336 rfl 0 rfl ?_
        refine g_iload_n C dL_law_337 rfl 3 rfl ?_
        refine g_iconst (v := (1 : Int32)) C dL_law_338 (by decide) ?_
        refine g_iadd C dL_law_339 ?_
        refine g_sld C hSx hin1 dL_law_340 ?_
        refine g_aload_n C dL_law_341 rfl 0 rfl ?_
        refine g_iload_n C dL_law_342 rfl 3 rfl ?_
        refine g_iconst (v := (2 : Int32)) C dL_law_343 (by decide) ?_
        refine g_iadd C dL_law_344 ?_
        refine g_sld C hSx hin2 dL_law_345 ?_
        refine g_callV (As := [.int (xs (Int32.toNatClampNeg (x3 + (1 : Int32)))), .int (xs (Int32.toNatClampNeg (x3 + (2 : Int32))))]) (rest := [.int o1]) C k_X6_ofSpot (fun l => c_X6_ofSpot (E := E) (a := ay) (V := M) h2 l) mt_770 [17] rfl (by decide) ⟨_, _, _, _, List.mem_flatten.mpr ⟨_, List.mem_of_getElem? (i := 17) rfl, List.mem_of_getElem? (i := 0) rfl⟩, rfl⟩ rfl (Nat.le_of_ble_eq_true rfl) ⟨Nat.le_of_ble_eq_true rfl, Nat.le_of_ble_eq_true rfl, hk0, hn0⟩ dL_law_346 ?_
        rintro _ _ ⟨rfl, rfl⟩
        show G E X 4 [xo E ax (ap 0) (ad 0) (an 0) (am 0) (ah 0) (aq 0) (az 0), pd E ap Vp, rd E ad Vd, sc E an Vn, sc E am Vm, hb E ah (ak0 0) (ak1 0) (ak2 0) (ak3 0) (ak4 0) (ak5 0) Vh, sc E ak0 Vk0, sc E ak1 Vk1, sc E ak2 Vk2, sc E ak3 Vk3, sc E ak4 Vk4, sc E ak5 Vk5, qa E aq (as0 0) (as1 0), sc E as0 Vs0, sc E as1 Vs1, za E az Vz, gu, md E ay M] k n [(0, .ref b), (1, .ref (ax 0)), (2, .ref (ay 0)), (3, .int x3)] [.int o2, .int o1] 349
        refine g_icmp_eq (tgt := 669) C dL_law_349 (by decide) (fun _ => ?_) (fun c => absurd he c)
        refine g_iinc (v := (x3 + (4 : Int32))) (lv2 := [(3, .int (x3 + (4 : Int32))), (0, .ref b), (1, .ref (ax 0)), (2, .ref (ay 0))]) C dL_law_669 3 rfl (ii (by decide)) (by decide) rfl ?_
        refine g_goto (tgt := 18) C dL_law_672 (by decide) ?_
        refine g_sub (lv2 := [(0, .ref b), (1, .ref (ax 0)), (2, .ref (ay 0)), (3, .int (x3 + (4 : Int32)))]) [1, 2, 3, 0] rfl ?_
        exact ih (i + 4) (x3 + (4 : Int32)) k n gu ρ RS Vp Vd Vn Vm Vh Vk0 Vk1 Vk2 Vk3 Vk4 Vk5 Vs0 Vs1 Vz M hi4 hf4 hx4 (by omega) (by omega) hRI hR
      by_cases e8 : (xs (Int32.toNatClampNeg x3)) &&& (31 : Int32) = (8 : Int32)
      · obtain ⟨o1, o2, h1, h2, he, hR⟩ := st_ofStop hN H (xs (Int32.toNatClampNeg (x3 + (1 : Int32)))) (xs (Int32.toNatClampNeg (x3 + (2 : Int32))))
        refine g_tin (tgt := 354) C dL_law_32 (by rw [e8] <;> decide) (by rw [e8] <;> decide) (by rw [e8] <;> rfl) (by decide) ?_
        refine g_aload_n C dL_law_354 rfl 1 rfl ?_
        refine g_aload_n C dL_law_355 rfl 0 rfl ?_
        refine g_iload_n C dL_law_356 rfl 3 rfl ?_
        refine g_iconst (v := (1 : Int32)) C dL_law_357 (by decide) ?_
        refine g_iadd C dL_law_358 ?_
        refine g_sld C hSx hin1 dL_law_359 ?_
        refine g_aload_n C dL_law_360 rfl 0 rfl ?_
        refine g_iload_n C dL_law_361 rfl 3 rfl ?_
        refine g_iconst (v := (2 : Int32)) C dL_law_362 (by decide) ?_
        refine g_iadd C dL_law_363 ?_
        refine g_sld C hSx hin2 dL_law_364 ?_
        refine g_callV (As := [.int (xs (Int32.toNatClampNeg (x3 + (1 : Int32)))), .int (xs (Int32.toNatClampNeg (x3 + (2 : Int32))))]) (rest := []) C k_X5_ofStop (fun l => c_X5_ofStop (E := E) (ax := ax) (ex0 := (ap 0)) (ex1 := (ad 0)) (ex3 := (am 0)) (ex4 := (ah 0)) (ex5 := (aq 0)) (ex6 := (az 0)) (an := an) (Vn := Vn) h1 l) mt_443 [0, 3] rfl (by decide) ⟨_, _, _, _, List.mem_flatten.mpr ⟨_, List.mem_of_getElem? (i := 0) rfl, List.mem_of_getElem? (i := 0) rfl⟩, rfl⟩ rfl (Nat.le_of_ble_eq_true rfl) ⟨Nat.le_of_ble_eq_true rfl, Nat.le_of_ble_eq_true rfl, hk0, hn0⟩ dL_law_365 ?_
        rintro _ _ ⟨rfl, rfl⟩
        show G E X 4 [xo E ax (ap 0) (ad 0) (an 0) (am 0) (ah 0) (aq 0) (az 0), pd E ap Vp, rd E ad Vd, sc E an Vn, sc E am Vm, hb E ah (ak0 0) (ak1 0) (ak2 0) (ak3 0) (ak4 0) (ak5 0) Vh, sc E ak0 Vk0, sc E ak1 Vk1, sc E ak2 Vk2, sc E ak3 Vk3, sc E ak4 Vk4, sc E ak5 Vk5, qa E aq (as0 0) (as1 0), sc E as0 Vs0, sc E as1 Vs1, za E az Vz, gu, md E ay M] k n [(0, .ref b), (1, .ref (ax 0)), (2, .ref (ay 0)), (3, .int x3)] [.int o1] 368
        refine g_aload_n C dL_law_368 rfl 2 rfl ?_
        refine g_aload_n C dL_law_369 rfl 0 rfl ?_
        refine g_iload_n C dL_law_370 rfl 3 rfl ?_
        refine g_iconst (v := (1 : Int32)) C dL_law_371 (by decide) ?_
        refine g_iadd C dL_law_372 ?_
        refine g_sld C hSx hin1 dL_law_373 ?_
        refine g_aload_n C dL_law_374 rfl 0 rfl ?_
        refine g_iload_n C dL_law_375 rfl 3 rfl ?_
        refine g_iconst (v := (2 : Int32)) C dL_law_376 (by decide) ?_
        refine g_iadd C dL_law_377 ?_
        refine g_sld C hSx hin2 dL_law_378 ?_
        refine g_callV (As := [.int (xs (Int32.toNatClampNeg (x3 + (1 : Int32)))), .int (xs (Int32.toNatClampNeg (x3 + (2 : Int32))))]) (rest := [.int o1]) C k_X6_ofStop (fun l => c_X6_ofStop (E := E) (a := ay) (V := M) h2 l) mt_774 [17] rfl (by decide) ⟨_, _, _, _, List.mem_flatten.mpr ⟨_, List.mem_of_getElem? (i := 17) rfl, List.mem_of_getElem? (i := 0) rfl⟩, rfl⟩ rfl (Nat.le_of_ble_eq_true rfl) ⟨Nat.le_of_ble_eq_true rfl, Nat.le_of_ble_eq_true rfl, hk0, hn0⟩ dL_law_379 ?_
        rintro _ _ ⟨rfl, rfl⟩
        show G E X 4 [xo E ax (ap 0) (ad 0) (an 0) (am 0) (ah 0) (aq 0) (az 0), pd E ap Vp, rd E ad Vd, sc E an Vn, sc E am Vm, hb E ah (ak0 0) (ak1 0) (ak2 0) (ak3 0) (ak4 0) (ak5 0) Vh, sc E ak0 Vk0, sc E ak1 Vk1, sc E ak2 Vk2, sc E ak3 Vk3, sc E ak4 Vk4, sc E ak5 Vk5, qa E aq (as0 0) (as1 0), sc E as0 Vs0, sc E as1 Vs1, za E az Vz, gu, md E ay M] k n [(0, .ref b), (1, .ref (ax 0)), (2, .ref (ay 0)), (3, .int x3)] [.int o2, .int o1] 382
        refine g_icmp_eq (tgt := 669) C dL_law_382 (by decide) (fun _ => ?_) (fun c => absurd he c)
        refine g_iinc (v := (x3 + (4 : Int32))) (lv2 := [(3, .int (x3 + (4 : Int32))), (0, .ref b), (1, .ref (ax 0)), (2, .ref (ay 0))]) C dL_law_669 3 rfl (ii (by decide)) (by decide) rfl ?_
        refine g_goto (tgt := 18) C dL_law_672 (by decide) ?_
        refine g_sub (lv2 := [(0, .ref b), (1, .ref (ax 0)), (2, .ref (ay 0)), (3, .int (x3 + (4 : Int32)))]) [1, 2, 3, 0] rfl ?_
        exact ih (i + 4) (x3 + (4 : Int32)) k n gu ρ RS Vp Vd Vn Vm Vh Vk0 Vk1 Vk2 Vk3 Vk4 Vk5 Vs0 Vs1 Vz M hi4 hf4 hx4 (by omega) (by omega) hRI hR
      by_cases e9 : (xs (Int32.toNatClampNeg x3)) &&& (31 : Int32) = (9 : Int32)
      · obtain ⟨o1, o2, h1, h2, he, hR⟩ := st_rule hN H (xs (Int32.toNatClampNeg (x3 + (1 : Int32))))
        refine g_tin (tgt := 387) C dL_law_32 (by rw [e9] <;> decide) (by rw [e9] <;> decide) (by rw [e9] <;> rfl) (by decide) ?_
        refine g_aload_n C dL_law_387 rfl 1 rfl ?_
        refine g_aload_n C dL_law_388 rfl 0 rfl ?_
        refine g_iload_n C dL_law_389 rfl 3 rfl ?_
        refine g_iconst (v := (1 : Int32)) C dL_law_390 (by decide) ?_
        refine g_iadd C dL_law_391 ?_
        refine g_sld C hSx hin1 dL_law_392 ?_
        refine g_callV (As := [.int (xs (Int32.toNatClampNeg (x3 + (1 : Int32))))]) (rest := []) C k_X5_rule (fun l => c_X5_rule (E := E) (ax := ax) (ex0 := (ap 0)) (ex1 := (ad 0)) (ex3 := (am 0)) (ex4 := (ah 0)) (ex5 := (aq 0)) (ex6 := (az 0)) (an := an) (Vn := Vn) (gu := gu) (bu := bu) (Ru := (ρ Vn.2.2.2.2.2.2.1)) hgu h1 l) mt_447 [0, 3, 16] rfl (by decide) ⟨_, _, _, _, List.mem_flatten.mpr ⟨_, List.mem_of_getElem? (i := 0) rfl, List.mem_of_getElem? (i := 0) rfl⟩, rfl⟩ rfl (Nat.le_of_ble_eq_true rfl) ⟨Nat.le_of_ble_eq_true rfl, Nat.le_of_ble_eq_true rfl, hk0, hn0⟩ dL_law_393 ?_
        rintro _ _ ⟨rfl, rfl⟩
        show G E X 4 [xo E ax (ap 0) (ad 0) (an 0) (am 0) (ah 0) (aq 0) (az 0), pd E ap Vp, rd E ad Vd, sc E an Vn, sc E am Vm, hb E ah (ak0 0) (ak1 0) (ak2 0) (ak3 0) (ak4 0) (ak5 0) Vh, sc E ak0 Vk0, sc E ak1 Vk1, sc E ak2 Vk2, sc E ak3 Vk3, sc E ak4 Vk4, sc E ak5 Vk5, qa E aq (as0 0) (as1 0), sc E as0 Vs0, sc E as1 Vs1, za E az Vz, gu, md E ay M] k n [(0, .ref b), (1, .ref (ax 0)), (2, .ref (ay 0)), (3, .int x3)] [.int o1] 396
        refine g_aload_n C dL_law_396 rfl 2 rfl ?_
        refine g_aload_n C dL_law_397 rfl 0 rfl ?_
        refine g_iload_n C dL_law_398 rfl 3 rfl ?_
        refine g_iconst (v := (1 : Int32)) C dL_law_399 (by decide) ?_
        refine g_iadd C dL_law_400 ?_
        refine g_sld C hSx hin1 dL_law_401 ?_
        refine g_callV (As := [.int (xs (Int32.toNatClampNeg (x3 + (1 : Int32))))]) (rest := [.int o1]) C k_X6_rule (fun l => c_X6_rule (E := E) (a := ay) (V := M) h2 l) mt_651 [17] rfl (by decide) ⟨_, _, _, _, List.mem_flatten.mpr ⟨_, List.mem_of_getElem? (i := 17) rfl, List.mem_of_getElem? (i := 0) rfl⟩, rfl⟩ rfl (Nat.le_of_ble_eq_true rfl) ⟨Nat.le_of_ble_eq_true rfl, Nat.le_of_ble_eq_true rfl, hk0, hn0⟩ dL_law_402 ?_
        rintro _ _ ⟨rfl, rfl⟩
        show G E X 4 [xo E ax (ap 0) (ad 0) (an 0) (am 0) (ah 0) (aq 0) (az 0), pd E ap Vp, rd E ad Vd, sc E an Vn, sc E am Vm, hb E ah (ak0 0) (ak1 0) (ak2 0) (ak3 0) (ak4 0) (ak5 0) Vh, sc E ak0 Vk0, sc E ak1 Vk1, sc E ak2 Vk2, sc E ak3 Vk3, sc E ak4 Vk4, sc E ak5 Vk5, qa E aq (as0 0) (as1 0), sc E as0 Vs0, sc E as1 Vs1, za E az Vz, gu, md E ay o2.2] k n [(0, .ref b), (1, .ref (ax 0)), (2, .ref (ay 0)), (3, .int x3)] [.int o2.1, .int o1] 405
        refine g_icmp_eq (tgt := 669) C dL_law_405 (by decide) (fun _ => ?_) (fun c => absurd he c)
        refine g_iinc (v := (x3 + (4 : Int32))) (lv2 := [(3, .int (x3 + (4 : Int32))), (0, .ref b), (1, .ref (ax 0)), (2, .ref (ay 0))]) C dL_law_669 3 rfl (ii (by decide)) (by decide) rfl ?_
        refine g_goto (tgt := 18) C dL_law_672 (by decide) ?_
        refine g_sub (lv2 := [(0, .ref b), (1, .ref (ax 0)), (2, .ref (ay 0)), (3, .int (x3 + (4 : Int32)))]) [1, 2, 3, 0] rfl ?_
        exact ih (i + 4) (x3 + (4 : Int32)) k n gu ρ RS Vp Vd Vn Vm Vh Vk0 Vk1 Vk2 Vk3 Vk4 Vk5 Vs0 Vs1 Vz o2.2 hi4 hf4 hx4 (by omega) (by omega) hRI hR
      by_cases e10 : (xs (Int32.toNatClampNeg x3)) &&& (31 : Int32) = (10 : Int32)
      · obtain ⟨o1, o2, h1, h2, he, hR⟩ := st_count hN H (xs (Int32.toNatClampNeg (x3 + (1 : Int32))))
        refine g_tin (tgt := 410) C dL_law_32 (by rw [e10] <;> decide) (by rw [e10] <;> decide) (by rw [e10] <;> rfl) (by decide) ?_
        refine g_aload_n C dL_law_410 rfl 1 rfl ?_
        refine g_aload_n C dL_law_411 rfl 0 rfl ?_
        refine g_iload_n C dL_law_412 rfl 3 rfl ?_
        refine g_iconst (v := (1 : Int32)) C dL_law_413 (by decide) ?_
        refine g_iadd C dL_law_414 ?_
        refine g_sld C hSx hin1 dL_law_415 ?_
        refine g_callV (As := [.int (xs (Int32.toNatClampNeg (x3 + (1 : Int32))))]) (rest := []) C k_X5_count (fun l => c_X5_count (E := E) (ax := ax) (ex1 := (ad 0)) (ex3 := (am 0)) (ex5 := (aq 0)) (ex6 := (az 0)) (ap := ap) (Vp := Vp) (an := an) (Vn := Vn) (ah := ah) (Vh := Vh) (ak0 := ak0) (Vk0 := Vk0) (ak1 := ak1) (Vk1 := Vk1) (ak2 := ak2) (Vk2 := Vk2) (ak3 := ak3) (Vk3 := Vk3) (ak4 := ak4) (Vk4 := Vk4) (ak5 := ak5) (Vk5 := Vk5) h1 l) mt_470 [0, 1, 3, 5, 6, 7, 8, 9, 10, 11] rfl (by decide) ⟨_, _, _, _, List.mem_flatten.mpr ⟨_, List.mem_of_getElem? (i := 0) rfl, List.mem_of_getElem? (i := 0) rfl⟩, rfl⟩ rfl (Nat.le_of_ble_eq_true rfl) ⟨Nat.le_of_ble_eq_true rfl, Nat.le_of_ble_eq_true rfl, hk0, hn0⟩ dL_law_416 ?_
        rintro _ _ ⟨rfl, rfl⟩
        show G E X 4 [xo E ax (ap 0) (ad 0) (an 0) (am 0) (ah 0) (aq 0) (az 0), pd E ap Vp, rd E ad Vd, sc E an Vn, sc E am Vm, hb E ah (ak0 0) (ak1 0) (ak2 0) (ak3 0) (ak4 0) (ak5 0) Vh, sc E ak0 Vk0, sc E ak1 Vk1, sc E ak2 Vk2, sc E ak3 Vk3, sc E ak4 Vk4, sc E ak5 Vk5, qa E aq (as0 0) (as1 0), sc E as0 Vs0, sc E as1 Vs1, za E az Vz, gu, md E ay M] k n [(0, .ref b), (1, .ref (ax 0)), (2, .ref (ay 0)), (3, .int x3)] [.int o1] 419
        refine g_aload_n C dL_law_419 rfl 2 rfl ?_
        refine g_aload_n C dL_law_420 rfl 0 rfl ?_
        refine g_iload_n C dL_law_421 rfl 3 rfl ?_
        refine g_iconst (v := (1 : Int32)) C dL_law_422 (by decide) ?_
        refine g_iadd C dL_law_423 ?_
        refine g_sld C hSx hin1 dL_law_424 ?_
        refine g_callV (As := [.int (xs (Int32.toNatClampNeg (x3 + (1 : Int32))))]) (rest := [.int o1]) C k_X6_count (fun l => c_X6_count (E := E) (a := ay) (V := M) h2 l) mt_778 [17] rfl (by decide) ⟨_, _, _, _, List.mem_flatten.mpr ⟨_, List.mem_of_getElem? (i := 17) rfl, List.mem_of_getElem? (i := 0) rfl⟩, rfl⟩ rfl (Nat.le_of_ble_eq_true rfl) ⟨Nat.le_of_ble_eq_true rfl, Nat.le_of_ble_eq_true rfl, hk0, hn0⟩ dL_law_425 ?_
        rintro _ _ ⟨rfl, rfl⟩
        show G E X 4 [xo E ax (ap 0) (ad 0) (an 0) (am 0) (ah 0) (aq 0) (az 0), pd E ap Vp, rd E ad Vd, sc E an Vn, sc E am Vm, hb E ah (ak0 0) (ak1 0) (ak2 0) (ak3 0) (ak4 0) (ak5 0) Vh, sc E ak0 Vk0, sc E ak1 Vk1, sc E ak2 Vk2, sc E ak3 Vk3, sc E ak4 Vk4, sc E ak5 Vk5, qa E aq (as0 0) (as1 0), sc E as0 Vs0, sc E as1 Vs1, za E az Vz, gu, md E ay M] k n [(0, .ref b), (1, .ref (ax 0)), (2, .ref (ay 0)), (3, .int x3)] [.int o2, .int o1] 428
        refine g_icmp_eq (tgt := 669) C dL_law_428 (by decide) (fun _ => ?_) (fun c => absurd he c)
        refine g_iinc (v := (x3 + (4 : Int32))) (lv2 := [(3, .int (x3 + (4 : Int32))), (0, .ref b), (1, .ref (ax 0)), (2, .ref (ay 0))]) C dL_law_669 3 rfl (ii (by decide)) (by decide) rfl ?_
        refine g_goto (tgt := 18) C dL_law_672 (by decide) ?_
        refine g_sub (lv2 := [(0, .ref b), (1, .ref (ax 0)), (2, .ref (ay 0)), (3, .int (x3 + (4 : Int32)))]) [1, 2, 3, 0] rfl ?_
        exact ih (i + 4) (x3 + (4 : Int32)) k n gu ρ RS Vp Vd Vn Vm Vh Vk0 Vk1 Vk2 Vk3 Vk4 Vk5 Vs0 Vs1 Vz M hi4 hf4 hx4 (by omega) (by omega) hRI hR
      by_cases e11 : (xs (Int32.toNatClampNeg x3)) &&& (31 : Int32) = (11 : Int32)
      · obtain ⟨o1, o2, h1, h2, he, hR⟩ := st_way hN H
        refine g_tin (tgt := 433) C dL_law_32 (by rw [e11] <;> decide) (by rw [e11] <;> decide) (by rw [e11] <;> rfl) (by decide) ?_
        refine g_aload_n C dL_law_433 rfl 1 rfl ?_
        refine g_callV (As := []) (rest := []) C k_X5_way (fun l => c_X5_way (E := E) (ax := ax) (ex0 := (ap 0)) (ex1 := (ad 0)) (ex4 := (ah 0)) (ex5 := (aq 0)) (ex6 := (az 0)) (an := an) (Vn := Vn) (am := am) (Vm := Vm) h1 l) mt_482 [0, 3, 4] rfl (by decide) ⟨_, _, _, _, List.mem_flatten.mpr ⟨_, List.mem_of_getElem? (i := 0) rfl, List.mem_of_getElem? (i := 0) rfl⟩, rfl⟩ rfl (Nat.le_of_ble_eq_true rfl) ⟨Nat.le_of_ble_eq_true rfl, Nat.le_of_ble_eq_true rfl, hk0, hn0⟩ dL_law_434 ?_
        rintro _ _ ⟨rfl, rfl⟩
        show G E X 4 [xo E ax (ap 0) (ad 0) (an 0) (am 0) (ah 0) (aq 0) (az 0), pd E ap Vp, rd E ad Vd, sc E an Vn, sc E am o1.2, hb E ah (ak0 0) (ak1 0) (ak2 0) (ak3 0) (ak4 0) (ak5 0) Vh, sc E ak0 Vk0, sc E ak1 Vk1, sc E ak2 Vk2, sc E ak3 Vk3, sc E ak4 Vk4, sc E ak5 Vk5, qa E aq (as0 0) (as1 0), sc E as0 Vs0, sc E as1 Vs1, za E az Vz, gu, md E ay M] k n [(0, .ref b), (1, .ref (ax 0)), (2, .ref (ay 0)), (3, .int x3)] [.int o1.1] 437
        refine g_aload_n C dL_law_437 rfl 2 rfl ?_
        refine g_callV (As := []) (rest := [.int o1.1]) C k_X6_way (fun l => c_X6_way (E := E) (a := ay) (V := M) h2 l) mt_782 [17] rfl (by decide) ⟨_, _, _, _, List.mem_flatten.mpr ⟨_, List.mem_of_getElem? (i := 17) rfl, List.mem_of_getElem? (i := 0) rfl⟩, rfl⟩ rfl (Nat.le_of_ble_eq_true rfl) ⟨Nat.le_of_ble_eq_true rfl, Nat.le_of_ble_eq_true rfl, hk0, hn0⟩ dL_law_438 ?_
        rintro _ _ ⟨rfl, rfl⟩
        show G E X 4 [xo E ax (ap 0) (ad 0) (an 0) (am 0) (ah 0) (aq 0) (az 0), pd E ap Vp, rd E ad Vd, sc E an Vn, sc E am o1.2, hb E ah (ak0 0) (ak1 0) (ak2 0) (ak3 0) (ak4 0) (ak5 0) Vh, sc E ak0 Vk0, sc E ak1 Vk1, sc E ak2 Vk2, sc E ak3 Vk3, sc E ak4 Vk4, sc E ak5 Vk5, qa E aq (as0 0) (as1 0), sc E as0 Vs0, sc E as1 Vs1, za E az Vz, gu, md E ay o2.2] k n [(0, .ref b), (1, .ref (ax 0)), (2, .ref (ay 0)), (3, .int x3)] [.int o2.1, .int o1.1] 441
        refine g_icmp_eq (tgt := 669) C dL_law_441 (by decide) (fun _ => ?_) (fun c => absurd he c)
        refine g_iinc (v := (x3 + (4 : Int32))) (lv2 := [(3, .int (x3 + (4 : Int32))), (0, .ref b), (1, .ref (ax 0)), (2, .ref (ay 0))]) C dL_law_669 3 rfl (ii (by decide)) (by decide) rfl ?_
        refine g_goto (tgt := 18) C dL_law_672 (by decide) ?_
        refine g_sub (lv2 := [(0, .ref b), (1, .ref (ax 0)), (2, .ref (ay 0)), (3, .int (x3 + (4 : Int32)))]) [1, 2, 3, 0] rfl ?_
        exact ih (i + 4) (x3 + (4 : Int32)) k n gu ρ RS Vp Vd Vn o1.2 Vh Vk0 Vk1 Vk2 Vk3 Vk4 Vk5 Vs0 Vs1 Vz o2.2 hi4 hf4 hx4 (by omega) (by omega) hRI hR
      by_cases e12 : (xs (Int32.toNatClampNeg x3)) &&& (31 : Int32) = (12 : Int32)
      · obtain ⟨o1, o2, h1, h2, he, hR⟩ := st_emptyIn hN H
        refine g_tin (tgt := 446) C dL_law_32 (by rw [e12] <;> decide) (by rw [e12] <;> decide) (by rw [e12] <;> rfl) (by decide) ?_
        refine g_aload_n C dL_law_446 rfl 1 rfl ?_
        refine g_callV (As := []) (rest := []) C k_X5_emptyIn (fun l => c_X5_emptyIn (E := E) (ax := ax) (ex0 := (ap 0)) (ex1 := (ad 0)) (ex4 := (ah 0)) (ex5 := (aq 0)) (ex6 := (az 0)) (an := an) (Vn := Vn) (am := am) (Vm := Vm) (gu := gu) (bu := bu) (Ru := (ρ Vn.2.2.2.2.2.2.1)) hgu h1 l) mt_496 [0, 3, 4, 16] rfl (by decide) ⟨_, _, _, _, List.mem_flatten.mpr ⟨_, List.mem_of_getElem? (i := 0) rfl, List.mem_of_getElem? (i := 0) rfl⟩, rfl⟩ rfl (Nat.le_of_ble_eq_true rfl) ⟨Nat.le_of_ble_eq_true rfl, Nat.le_of_ble_eq_true rfl, hk0, hn0⟩ dL_law_447 ?_
        rintro _ _ ⟨rfl, rfl⟩
        show G E X 4 [xo E ax (ap 0) (ad 0) (an 0) (am 0) (ah 0) (aq 0) (az 0), pd E ap Vp, rd E ad Vd, sc E an Vn, sc E am o1.2, hb E ah (ak0 0) (ak1 0) (ak2 0) (ak3 0) (ak4 0) (ak5 0) Vh, sc E ak0 Vk0, sc E ak1 Vk1, sc E ak2 Vk2, sc E ak3 Vk3, sc E ak4 Vk4, sc E ak5 Vk5, qa E aq (as0 0) (as1 0), sc E as0 Vs0, sc E as1 Vs1, za E az Vz, gu, md E ay M] k n [(0, .ref b), (1, .ref (ax 0)), (2, .ref (ay 0)), (3, .int x3)] [.int o1.1] 450
        refine g_aload_n C dL_law_450 rfl 2 rfl ?_
        refine g_callV (As := []) (rest := [.int o1.1]) C k_X6_emptyIn (fun l => c_X6_emptyIn (E := E) (a := ay) (V := M) h2 l) mt_798 [17] rfl (by decide) ⟨_, _, _, _, List.mem_flatten.mpr ⟨_, List.mem_of_getElem? (i := 17) rfl, List.mem_of_getElem? (i := 0) rfl⟩, rfl⟩ rfl (Nat.le_of_ble_eq_true rfl) ⟨Nat.le_of_ble_eq_true rfl, Nat.le_of_ble_eq_true rfl, hk0, hn0⟩ dL_law_451 ?_
        rintro _ _ ⟨rfl, rfl⟩
        show G E X 4 [xo E ax (ap 0) (ad 0) (an 0) (am 0) (ah 0) (aq 0) (az 0), pd E ap Vp, rd E ad Vd, sc E an Vn, sc E am o1.2, hb E ah (ak0 0) (ak1 0) (ak2 0) (ak3 0) (ak4 0) (ak5 0) Vh, sc E ak0 Vk0, sc E ak1 Vk1, sc E ak2 Vk2, sc E ak3 Vk3, sc E ak4 Vk4, sc E ak5 Vk5, qa E aq (as0 0) (as1 0), sc E as0 Vs0, sc E as1 Vs1, za E az Vz, gu, md E ay o2.2] k n [(0, .ref b), (1, .ref (ax 0)), (2, .ref (ay 0)), (3, .int x3)] [.int o2.1, .int o1.1] 454
        refine g_icmp_eq (tgt := 669) C dL_law_454 (by decide) (fun _ => ?_) (fun c => absurd he c)
        refine g_iinc (v := (x3 + (4 : Int32))) (lv2 := [(3, .int (x3 + (4 : Int32))), (0, .ref b), (1, .ref (ax 0)), (2, .ref (ay 0))]) C dL_law_669 3 rfl (ii (by decide)) (by decide) rfl ?_
        refine g_goto (tgt := 18) C dL_law_672 (by decide) ?_
        refine g_sub (lv2 := [(0, .ref b), (1, .ref (ax 0)), (2, .ref (ay 0)), (3, .int (x3 + (4 : Int32)))]) [1, 2, 3, 0] rfl ?_
        exact ih (i + 4) (x3 + (4 : Int32)) k n gu ρ RS Vp Vd Vn o1.2 Vh Vk0 Vk1 Vk2 Vk3 Vk4 Vk5 Vs0 Vs1 Vz o2.2 hi4 hf4 hx4 (by omega) (by omega) hRI hR
      by_cases e13 : (xs (Int32.toNatClampNeg x3)) &&& (31 : Int32) = (13 : Int32)
      · obtain ⟨o1, o2, h1, h2, he, hR⟩ := st_leastRamp hN H (xs (Int32.toNatClampNeg (x3 + (1 : Int32))))
        refine g_tin (tgt := 459) C dL_law_32 (by rw [e13] <;> decide) (by rw [e13] <;> decide) (by rw [e13] <;> rfl) (by decide) ?_
        refine g_aload_n C dL_law_459 rfl 1 rfl ?_
        refine g_aload_n C dL_law_460 rfl 0 rfl ?_
        refine g_iload_n C dL_law_461 rfl 3 rfl ?_
        refine g_iconst (v := (1 : Int32)) C dL_law_462 (by decide) ?_
        refine g_iadd C dL_law_463 ?_
        refine g_sld C hSx hin1 dL_law_464 ?_
        refine g_callV (As := [.int (xs (Int32.toNatClampNeg (x3 + (1 : Int32))))]) (rest := []) C k_X5_leastRamp (fun l => c_X5_leastRamp (E := E) (ax := ax) (ex0 := (ap 0)) (ex1 := (ad 0)) (ex4 := (ah 0)) (ex5 := (aq 0)) (ex6 := (az 0)) (an := an) (Vn := Vn) (am := am) (Vm := Vm) h1 l) mt_505 [0, 3, 4] rfl (by decide) ⟨_, _, _, _, List.mem_flatten.mpr ⟨_, List.mem_of_getElem? (i := 0) rfl, List.mem_of_getElem? (i := 0) rfl⟩, rfl⟩ rfl (Nat.le_of_ble_eq_true rfl) ⟨Nat.le_of_ble_eq_true rfl, Nat.le_of_ble_eq_true rfl, hk0, hn0⟩ dL_law_465 ?_
        rintro _ _ ⟨rfl, rfl⟩
        show G E X 4 [xo E ax (ap 0) (ad 0) (an 0) (am 0) (ah 0) (aq 0) (az 0), pd E ap Vp, rd E ad Vd, sc E an Vn, sc E am o1.2, hb E ah (ak0 0) (ak1 0) (ak2 0) (ak3 0) (ak4 0) (ak5 0) Vh, sc E ak0 Vk0, sc E ak1 Vk1, sc E ak2 Vk2, sc E ak3 Vk3, sc E ak4 Vk4, sc E ak5 Vk5, qa E aq (as0 0) (as1 0), sc E as0 Vs0, sc E as1 Vs1, za E az Vz, gu, md E ay M] k n [(0, .ref b), (1, .ref (ax 0)), (2, .ref (ay 0)), (3, .int x3)] [.int o1.1] 468
        refine g_aload_n C dL_law_468 rfl 2 rfl ?_
        refine g_aload_n C dL_law_469 rfl 0 rfl ?_
        refine g_iload_n C dL_law_470 rfl 3 rfl ?_
        refine g_iconst (v := (1 : Int32)) C dL_law_471 (by decide) ?_
        refine g_iadd C dL_law_472 ?_
        refine g_sld C hSx hin1 dL_law_473 ?_
        refine g_callV (As := [.int (xs (Int32.toNatClampNeg (x3 + (1 : Int32))))]) (rest := [.int o1.1]) C k_X6_leastRamp (fun l => c_X6_leastRamp (E := E) (a := ay) (V := M) h2 l) mt_802 [17] rfl (by decide) ⟨_, _, _, _, List.mem_flatten.mpr ⟨_, List.mem_of_getElem? (i := 17) rfl, List.mem_of_getElem? (i := 0) rfl⟩, rfl⟩ rfl (Nat.le_of_ble_eq_true rfl) ⟨Nat.le_of_ble_eq_true rfl, Nat.le_of_ble_eq_true rfl, hk0, hn0⟩ dL_law_474 ?_
        rintro _ _ ⟨rfl, rfl⟩
        show G E X 4 [xo E ax (ap 0) (ad 0) (an 0) (am 0) (ah 0) (aq 0) (az 0), pd E ap Vp, rd E ad Vd, sc E an Vn, sc E am o1.2, hb E ah (ak0 0) (ak1 0) (ak2 0) (ak3 0) (ak4 0) (ak5 0) Vh, sc E ak0 Vk0, sc E ak1 Vk1, sc E ak2 Vk2, sc E ak3 Vk3, sc E ak4 Vk4, sc E ak5 Vk5, qa E aq (as0 0) (as1 0), sc E as0 Vs0, sc E as1 Vs1, za E az Vz, gu, md E ay o2.2] k n [(0, .ref b), (1, .ref (ax 0)), (2, .ref (ay 0)), (3, .int x3)] [.int o2.1, .int o1.1] 477
        refine g_icmp_eq (tgt := 669) C dL_law_477 (by decide) (fun _ => ?_) (fun c => absurd he c)
        refine g_iinc (v := (x3 + (4 : Int32))) (lv2 := [(3, .int (x3 + (4 : Int32))), (0, .ref b), (1, .ref (ax 0)), (2, .ref (ay 0))]) C dL_law_669 3 rfl (ii (by decide)) (by decide) rfl ?_
        refine g_goto (tgt := 18) C dL_law_672 (by decide) ?_
        refine g_sub (lv2 := [(0, .ref b), (1, .ref (ax 0)), (2, .ref (ay 0)), (3, .int (x3 + (4 : Int32)))]) [1, 2, 3, 0] rfl ?_
        exact ih (i + 4) (x3 + (4 : Int32)) k n gu ρ RS Vp Vd Vn o1.2 Vh Vk0 Vk1 Vk2 Vk3 Vk4 Vk5 Vs0 Vs1 Vz o2.2 hi4 hf4 hx4 (by omega) (by omega) hRI hR
      by_cases e14 : (xs (Int32.toNatClampNeg x3)) &&& (31 : Int32) = (14 : Int32)
      · obtain ⟨o1, o2, h1, h2, he, hR⟩ := st_wouldHold hN H (xs (Int32.toNatClampNeg (x3 + (1 : Int32))))
        refine g_tin (tgt := 482) C dL_law_32 (by rw [e14] <;> decide) (by rw [e14] <;> decide) (by rw [e14] <;> rfl) (by decide) ?_
        refine g_aload_n C dL_law_482 rfl 1 rfl ?_
        refine g_aload_n C dL_law_483 rfl 0 rfl ?_
        refine g_iload_n C dL_law_484 rfl 3 rfl ?_
        refine g_iconst (v := (1 : Int32)) C dL_law_485 (by decide) ?_
        refine g_iadd C dL_law_486 ?_
        refine g_sld C hSx hin1 dL_law_487 ?_
        refine g_callV (As := [.int (xs (Int32.toNatClampNeg (x3 + (1 : Int32))))]) (rest := []) C k_X5_wouldHold (fun l => c_X5_wouldHold (E := E) (ax := ax) (ex0 := (ap 0)) (ex1 := (ad 0)) (ex3 := (am 0)) (ex4 := (ah 0)) (ex5 := (aq 0)) (ex6 := (az 0)) (an := an) (Vn := Vn) (gu := gu) (bu := bu) (Ru := (ρ Vn.2.2.2.2.2.2.1)) hgu h1 l) mt_509 [0, 3, 16] rfl (by decide) ⟨_, _, _, _, List.mem_flatten.mpr ⟨_, List.mem_of_getElem? (i := 0) rfl, List.mem_of_getElem? (i := 0) rfl⟩, rfl⟩ rfl (Nat.le_of_ble_eq_true rfl) ⟨Nat.le_of_ble_eq_true rfl, Nat.le_of_ble_eq_true rfl, hk0, hn0⟩ dL_law_488 ?_
        rintro _ _ ⟨rfl, rfl⟩
        show G E X 4 [xo E ax (ap 0) (ad 0) (an 0) (am 0) (ah 0) (aq 0) (az 0), pd E ap Vp, rd E ad Vd, sc E an Vn, sc E am Vm, hb E ah (ak0 0) (ak1 0) (ak2 0) (ak3 0) (ak4 0) (ak5 0) Vh, sc E ak0 Vk0, sc E ak1 Vk1, sc E ak2 Vk2, sc E ak3 Vk3, sc E ak4 Vk4, sc E ak5 Vk5, qa E aq (as0 0) (as1 0), sc E as0 Vs0, sc E as1 Vs1, za E az Vz, gu, md E ay M] k n [(0, .ref b), (1, .ref (ax 0)), (2, .ref (ay 0)), (3, .int x3)] [.int o1] 491
        refine g_aload_n C dL_law_491 rfl 2 rfl ?_
        refine g_aload_n C dL_law_492 rfl 0 rfl ?_
        refine g_iload_n C dL_law_493 rfl 3 rfl ?_
        refine g_iconst (v := (1 : Int32)) C dL_law_494 (by decide) ?_
        refine g_iadd C dL_law_495 ?_
        refine g_sld C hSx hin1 dL_law_496 ?_
        refine g_callV (As := [.int (xs (Int32.toNatClampNeg (x3 + (1 : Int32))))]) (rest := [.int o1]) C k_X6_wouldHold (fun l => c_X6_wouldHold (E := E) (a := ay) (V := M) h2 l) mt_806 [17] rfl (by decide) ⟨_, _, _, _, List.mem_flatten.mpr ⟨_, List.mem_of_getElem? (i := 17) rfl, List.mem_of_getElem? (i := 0) rfl⟩, rfl⟩ rfl (Nat.le_of_ble_eq_true rfl) ⟨Nat.le_of_ble_eq_true rfl, Nat.le_of_ble_eq_true rfl, hk0, hn0⟩ dL_law_497 ?_
        rintro _ _ ⟨rfl, rfl⟩
        show G E X 4 [xo E ax (ap 0) (ad 0) (an 0) (am 0) (ah 0) (aq 0) (az 0), pd E ap Vp, rd E ad Vd, sc E an Vn, sc E am Vm, hb E ah (ak0 0) (ak1 0) (ak2 0) (ak3 0) (ak4 0) (ak5 0) Vh, sc E ak0 Vk0, sc E ak1 Vk1, sc E ak2 Vk2, sc E ak3 Vk3, sc E ak4 Vk4, sc E ak5 Vk5, qa E aq (as0 0) (as1 0), sc E as0 Vs0, sc E as1 Vs1, za E az Vz, gu, md E ay o2.2] k n [(0, .ref b), (1, .ref (ax 0)), (2, .ref (ay 0)), (3, .int x3)] [.int o2.1, .int o1] 500
        refine g_icmp_eq (tgt := 669) C dL_law_500 (by decide) (fun _ => ?_) (fun c => absurd he c)
        refine g_iinc (v := (x3 + (4 : Int32))) (lv2 := [(3, .int (x3 + (4 : Int32))), (0, .ref b), (1, .ref (ax 0)), (2, .ref (ay 0))]) C dL_law_669 3 rfl (ii (by decide)) (by decide) rfl ?_
        refine g_goto (tgt := 18) C dL_law_672 (by decide) ?_
        refine g_sub (lv2 := [(0, .ref b), (1, .ref (ax 0)), (2, .ref (ay 0)), (3, .int (x3 + (4 : Int32)))]) [1, 2, 3, 0] rfl ?_
        exact ih (i + 4) (x3 + (4 : Int32)) k n gu ρ RS Vp Vd Vn Vm Vh Vk0 Vk1 Vk2 Vk3 Vk4 Vk5 Vs0 Vs1 Vz o2.2 hi4 hf4 hx4 (by omega) (by omega) hRI hR
      by_cases e15 : (xs (Int32.toNatClampNeg x3)) &&& (31 : Int32) = (15 : Int32)
      · obtain ⟨o1, o2, h1, h2, he, hR⟩ := st_fewest hN H
        refine g_tin (tgt := 505) C dL_law_32 (by rw [e15] <;> decide) (by rw [e15] <;> decide) (by rw [e15] <;> rfl) (by decide) ?_
        refine g_aload_n C dL_law_505 rfl 1 rfl ?_
        refine g_callV (As := []) (rest := []) C k_X5_fewest (fun l => c_X5_fewest (E := E) (ax := ax) (ex0 := (ap 0)) (ex1 := (ad 0)) (ex3 := (am 0)) (ex4 := (ah 0)) (ex5 := (aq 0)) (ex6 := (az 0)) (an := an) (Vn := Vn) (gu := gu) (bu := bu) (Ru := (ρ Vn.2.2.2.2.2.2.1)) hgu h1 l) mt_514 [0, 3, 16] rfl (by decide) ⟨_, _, _, _, List.mem_flatten.mpr ⟨_, List.mem_of_getElem? (i := 0) rfl, List.mem_of_getElem? (i := 0) rfl⟩, rfl⟩ rfl (Nat.le_of_ble_eq_true rfl) ⟨Nat.le_of_ble_eq_true rfl, Nat.le_of_ble_eq_true rfl, hk0, hn0⟩ dL_law_506 ?_
        rintro _ _ ⟨rfl, rfl⟩
        show G E X 4 [xo E ax (ap 0) (ad 0) (an 0) (am 0) (ah 0) (aq 0) (az 0), pd E ap Vp, rd E ad Vd, sc E an Vn, sc E am Vm, hb E ah (ak0 0) (ak1 0) (ak2 0) (ak3 0) (ak4 0) (ak5 0) Vh, sc E ak0 Vk0, sc E ak1 Vk1, sc E ak2 Vk2, sc E ak3 Vk3, sc E ak4 Vk4, sc E ak5 Vk5, qa E aq (as0 0) (as1 0), sc E as0 Vs0, sc E as1 Vs1, za E az Vz, gu, md E ay M] k n [(0, .ref b), (1, .ref (ax 0)), (2, .ref (ay 0)), (3, .int x3)] [.int o1] 509
        refine g_aload_n C dL_law_509 rfl 2 rfl ?_
        refine g_callV (As := []) (rest := [.int o1]) C k_X6_fewest (fun l => c_X6_fewest (E := E) (a := ay) (V := M) h2 l) mt_810 [17] rfl (by decide) ⟨_, _, _, _, List.mem_flatten.mpr ⟨_, List.mem_of_getElem? (i := 17) rfl, List.mem_of_getElem? (i := 0) rfl⟩, rfl⟩ rfl (Nat.le_of_ble_eq_true rfl) ⟨Nat.le_of_ble_eq_true rfl, Nat.le_of_ble_eq_true rfl, hk0, hn0⟩ dL_law_510 ?_
        rintro _ _ ⟨rfl, rfl⟩
        show G E X 4 [xo E ax (ap 0) (ad 0) (an 0) (am 0) (ah 0) (aq 0) (az 0), pd E ap Vp, rd E ad Vd, sc E an Vn, sc E am Vm, hb E ah (ak0 0) (ak1 0) (ak2 0) (ak3 0) (ak4 0) (ak5 0) Vh, sc E ak0 Vk0, sc E ak1 Vk1, sc E ak2 Vk2, sc E ak3 Vk3, sc E ak4 Vk4, sc E ak5 Vk5, qa E aq (as0 0) (as1 0), sc E as0 Vs0, sc E as1 Vs1, za E az Vz, gu, md E ay o2.2] k n [(0, .ref b), (1, .ref (ax 0)), (2, .ref (ay 0)), (3, .int x3)] [.int o2.1, .int o1] 513
        refine g_icmp_eq (tgt := 669) C dL_law_513 (by decide) (fun _ => ?_) (fun c => absurd he c)
        refine g_iinc (v := (x3 + (4 : Int32))) (lv2 := [(3, .int (x3 + (4 : Int32))), (0, .ref b), (1, .ref (ax 0)), (2, .ref (ay 0))]) C dL_law_669 3 rfl (ii (by decide)) (by decide) rfl ?_
        refine g_goto (tgt := 18) C dL_law_672 (by decide) ?_
        refine g_sub (lv2 := [(0, .ref b), (1, .ref (ax 0)), (2, .ref (ay 0)), (3, .int (x3 + (4 : Int32)))]) [1, 2, 3, 0] rfl ?_
        exact ih (i + 4) (x3 + (4 : Int32)) k n gu ρ RS Vp Vd Vn Vm Vh Vk0 Vk1 Vk2 Vk3 Vk4 Vk5 Vs0 Vs1 Vz o2.2 hi4 hf4 hx4 (by omega) (by omega) hRI hR
      by_cases e16 : (xs (Int32.toNatClampNeg x3)) &&& (31 : Int32) = (16 : Int32)
      · obtain ⟨o1, o2, h1, h2, he, hR⟩ := st_put hN H (((Int32.toInt64 (xs (Int32.toNatClampNeg (x3 + (1 : Int32))))) <<< (Int32.toInt64 (32 : Int32) &&& 63)) ||| ((Int32.toInt64 (xs (Int32.toNatClampNeg (x3 + (2 : Int32))))) &&& (4294967295 : Int64)))
        refine g_tin (tgt := 518) C dL_law_32 (by rw [e16] <;> decide) (by rw [e16] <;> decide) (by rw [e16] <;> rfl) (by decide) ?_
        refine g_aload_n C dL_law_518 rfl 1 rfl ?_
        refine g_aload_n C dL_law_519 rfl 0 rfl ?_
        refine g_iload_n C dL_law_520 rfl 3 rfl ?_
        refine g_iconst (v := (1 : Int32)) C dL_law_521 (by decide) ?_
        refine g_iadd C dL_law_522 ?_
        refine g_sld C hSx hin1 dL_law_523 ?_
        refine g_i2l C dL_law_524 ?_
        refine g_bipush (v := (32 : Int32)) C dL_law_525 (by decide) ?_
        refine g_lshl C dL_law_527 ?_
        refine g_aload_n C dL_law_528 rfl 0 rfl ?_
        refine g_iload_n C dL_law_529 rfl 3 rfl ?_
        refine g_iconst (v := (2 : Int32)) C dL_law_530 (by decide) ?_
        refine g_iadd C dL_law_531 ?_
        refine g_sld C hSx hin2 dL_law_532 ?_
        refine g_i2l C dL_law_533 ?_
        refine g_ldc2 C mt_835 dL_law_534 ?_
        refine g_land C dL_law_537 ?_
        refine g_lor C dL_law_538 ?_
        refine g_callV (As := [.long (((Int32.toInt64 (xs (Int32.toNatClampNeg (x3 + (1 : Int32))))) <<< (Int32.toInt64 (32 : Int32) &&& 63)) ||| ((Int32.toInt64 (xs (Int32.toNatClampNeg (x3 + (2 : Int32))))) &&& (4294967295 : Int64)))]) (rest := []) C k_X5_put (fun l => c_X5_put (E := E) (ax := ax) (ex1 := (ad 0)) (ex2 := (an 0)) (ex3 := (am 0)) (ex4 := (ah 0)) (ex5 := (aq 0)) (ex6 := (az 0)) (ap := ap) (Vp := Vp) h1 l) mt_524 [0, 1] rfl (by decide) ⟨_, _, _, _, List.mem_flatten.mpr ⟨_, List.mem_of_getElem? (i := 0) rfl, List.mem_of_getElem? (i := 0) rfl⟩, rfl⟩ rfl (Nat.le_of_ble_eq_true rfl) ⟨Nat.le_of_ble_eq_true rfl, Nat.le_of_ble_eq_true rfl, hk0, hn0⟩ dL_law_539 ?_
        rintro _ _ ⟨rfl, rfl⟩
        show G E X 4 [xo E ax (ap 0) (ad 0) (an 0) (am 0) (ah 0) (aq 0) (az 0), pd E ap o1.2, rd E ad Vd, sc E an Vn, sc E am Vm, hb E ah (ak0 0) (ak1 0) (ak2 0) (ak3 0) (ak4 0) (ak5 0) Vh, sc E ak0 Vk0, sc E ak1 Vk1, sc E ak2 Vk2, sc E ak3 Vk3, sc E ak4 Vk4, sc E ak5 Vk5, qa E aq (as0 0) (as1 0), sc E as0 Vs0, sc E as1 Vs1, za E az Vz, gu, md E ay M] k n [(0, .ref b), (1, .ref (ax 0)), (2, .ref (ay 0)), (3, .int x3)] [.int o1.1] 542
        refine g_aload_n C dL_law_542 rfl 2 rfl ?_
        refine g_aload_n C dL_law_543 rfl 0 rfl ?_
        refine g_iload_n C dL_law_544 rfl 3 rfl ?_
        refine g_iconst (v := (1 : Int32)) C dL_law_545 (by decide) ?_
        refine g_iadd C dL_law_546 ?_
        refine g_sld C hSx hin1 dL_law_547 ?_
        refine g_i2l C dL_law_548 ?_
        refine g_bipush (v := (32 : Int32)) C dL_law_549 (by decide) ?_
        refine g_lshl C dL_law_551 ?_
        refine g_aload_n C dL_law_552 rfl 0 rfl ?_
        refine g_iload_n C dL_law_553 rfl 3 rfl ?_
        refine g_iconst (v := (2 : Int32)) C dL_law_554 (by decide) ?_
        refine g_iadd C dL_law_555 ?_
        refine g_sld C hSx hin2 dL_law_556 ?_
        refine g_i2l C dL_law_557 ?_
        refine g_ldc2 C mt_835 dL_law_558 ?_
        refine g_land C dL_law_561 ?_
        refine g_lor C dL_law_562 ?_
        refine g_callV (As := [.long (((Int32.toInt64 (xs (Int32.toNatClampNeg (x3 + (1 : Int32))))) <<< (Int32.toInt64 (32 : Int32) &&& 63)) ||| ((Int32.toInt64 (xs (Int32.toNatClampNeg (x3 + (2 : Int32))))) &&& (4294967295 : Int64)))]) (rest := [.int o1.1]) C k_X6_put (fun l => c_X6_put (E := E) (a := ay) (V := M) h2 l) mt_817 [17] rfl (by decide) ⟨_, _, _, _, List.mem_flatten.mpr ⟨_, List.mem_of_getElem? (i := 17) rfl, List.mem_of_getElem? (i := 0) rfl⟩, rfl⟩ rfl (Nat.le_of_ble_eq_true rfl) ⟨Nat.le_of_ble_eq_true rfl, Nat.le_of_ble_eq_true rfl, hk0, hn0⟩ dL_law_563 ?_
        rintro _ _ ⟨rfl, rfl⟩
        show G E X 4 [xo E ax (ap 0) (ad 0) (an 0) (am 0) (ah 0) (aq 0) (az 0), pd E ap o1.2, rd E ad Vd, sc E an Vn, sc E am Vm, hb E ah (ak0 0) (ak1 0) (ak2 0) (ak3 0) (ak4 0) (ak5 0) Vh, sc E ak0 Vk0, sc E ak1 Vk1, sc E ak2 Vk2, sc E ak3 Vk3, sc E ak4 Vk4, sc E ak5 Vk5, qa E aq (as0 0) (as1 0), sc E as0 Vs0, sc E as1 Vs1, za E az Vz, gu, md E ay o2.2] k n [(0, .ref b), (1, .ref (ax 0)), (2, .ref (ay 0)), (3, .int x3)] [.int o2.1, .int o1.1] 566
        refine g_icmp_eq (tgt := 669) C dL_law_566 (by decide) (fun _ => ?_) (fun c => absurd he c)
        refine g_iinc (v := (x3 + (4 : Int32))) (lv2 := [(3, .int (x3 + (4 : Int32))), (0, .ref b), (1, .ref (ax 0)), (2, .ref (ay 0))]) C dL_law_669 3 rfl (ii (by decide)) (by decide) rfl ?_
        refine g_goto (tgt := 18) C dL_law_672 (by decide) ?_
        refine g_sub (lv2 := [(0, .ref b), (1, .ref (ax 0)), (2, .ref (ay 0)), (3, .int (x3 + (4 : Int32)))]) [1, 2, 3, 0] rfl ?_
        exact ih (i + 4) (x3 + (4 : Int32)) k n gu ρ RS o1.2 Vd Vn Vm Vh Vk0 Vk1 Vk2 Vk3 Vk4 Vk5 Vs0 Vs1 Vz o2.2 hi4 hf4 hx4 (by omega) (by omega) hRI hR
      by_cases e17 : (xs (Int32.toNatClampNeg x3)) &&& (31 : Int32) = (17 : Int32)
      · obtain ⟨o1, o2, h1, h2, he, hR⟩ := st_wipe hN H
        refine g_tin (tgt := 571) C dL_law_32 (by rw [e17] <;> decide) (by rw [e17] <;> decide) (by rw [e17] <;> rfl) (by decide) ?_
        refine g_aload_n C dL_law_571 rfl 1 rfl ?_
        refine g_callV (As := []) (rest := []) C k_X5_wipe (fun l => c_X5_wipe (E := E) (ax := ax) (ex1 := (ad 0)) (ex2 := (an 0)) (ex3 := (am 0)) (ex4 := (ah 0)) (ex5 := (aq 0)) (ex6 := (az 0)) (ap := ap) (Vp := Vp) h1 l) mt_539 [0, 1] rfl (by decide) ⟨_, _, _, _, List.mem_flatten.mpr ⟨_, List.mem_of_getElem? (i := 0) rfl, List.mem_of_getElem? (i := 0) rfl⟩, rfl⟩ rfl (Nat.le_of_ble_eq_true rfl) ⟨Nat.le_of_ble_eq_true rfl, Nat.le_of_ble_eq_true rfl, hk0, hn0⟩ dL_law_572 ?_
        rintro _ _ ⟨rfl, rfl⟩
        show G E X 4 [xo E ax (ap 0) (ad 0) (an 0) (am 0) (ah 0) (aq 0) (az 0), pd E ap o1.2, rd E ad Vd, sc E an Vn, sc E am Vm, hb E ah (ak0 0) (ak1 0) (ak2 0) (ak3 0) (ak4 0) (ak5 0) Vh, sc E ak0 Vk0, sc E ak1 Vk1, sc E ak2 Vk2, sc E ak3 Vk3, sc E ak4 Vk4, sc E ak5 Vk5, qa E aq (as0 0) (as1 0), sc E as0 Vs0, sc E as1 Vs1, za E az Vz, gu, md E ay M] k n [(0, .ref b), (1, .ref (ax 0)), (2, .ref (ay 0)), (3, .int x3)] [.int o1.1] 575
        refine g_aload_n C dL_law_575 rfl 2 rfl ?_
        refine g_callV (As := []) (rest := [.int o1.1]) C k_X6_wipe (fun l => c_X6_wipe (E := E) (a := ay) (V := M) h2 l) mt_822 [17] rfl (by decide) ⟨_, _, _, _, List.mem_flatten.mpr ⟨_, List.mem_of_getElem? (i := 17) rfl, List.mem_of_getElem? (i := 0) rfl⟩, rfl⟩ rfl (Nat.le_of_ble_eq_true rfl) ⟨Nat.le_of_ble_eq_true rfl, Nat.le_of_ble_eq_true rfl, hk0, hn0⟩ dL_law_576 ?_
        rintro _ _ ⟨rfl, rfl⟩
        show G E X 4 [xo E ax (ap 0) (ad 0) (an 0) (am 0) (ah 0) (aq 0) (az 0), pd E ap o1.2, rd E ad Vd, sc E an Vn, sc E am Vm, hb E ah (ak0 0) (ak1 0) (ak2 0) (ak3 0) (ak4 0) (ak5 0) Vh, sc E ak0 Vk0, sc E ak1 Vk1, sc E ak2 Vk2, sc E ak3 Vk3, sc E ak4 Vk4, sc E ak5 Vk5, qa E aq (as0 0) (as1 0), sc E as0 Vs0, sc E as1 Vs1, za E az Vz, gu, md E ay o2.2] k n [(0, .ref b), (1, .ref (ax 0)), (2, .ref (ay 0)), (3, .int x3)] [.int o2.1, .int o1.1] 579
        refine g_icmp_eq (tgt := 669) C dL_law_579 (by decide) (fun _ => ?_) (fun c => absurd he c)
        refine g_iinc (v := (x3 + (4 : Int32))) (lv2 := [(3, .int (x3 + (4 : Int32))), (0, .ref b), (1, .ref (ax 0)), (2, .ref (ay 0))]) C dL_law_669 3 rfl (ii (by decide)) (by decide) rfl ?_
        refine g_goto (tgt := 18) C dL_law_672 (by decide) ?_
        refine g_sub (lv2 := [(0, .ref b), (1, .ref (ax 0)), (2, .ref (ay 0)), (3, .int (x3 + (4 : Int32)))]) [1, 2, 3, 0] rfl ?_
        exact ih (i + 4) (x3 + (4 : Int32)) k n gu ρ RS o1.2 Vd Vn Vm Vh Vk0 Vk1 Vk2 Vk3 Vk4 Vk5 Vs0 Vs1 Vz o2.2 hi4 hf4 hx4 (by omega) (by omega) hRI hR
      by_cases e18 : (xs (Int32.toNatClampNeg x3)) &&& (31 : Int32) = (18 : Int32)
      · obtain ⟨o1, o2, h1, h2, he, hR⟩ := st_fault hN H
        refine g_tin (tgt := 584) C dL_law_32 (by rw [e18] <;> decide) (by rw [e18] <;> decide) (by rw [e18] <;> rfl) (by decide) ?_
        refine g_aload_n C dL_law_584 rfl 1 rfl ?_
        refine g_callV (As := []) (rest := []) C k_X5_fault (fun l => c_X5_fault (E := E) (ax := ax) (ex1 := (ad 0)) (ex2 := (an 0)) (ex3 := (am 0)) (ex4 := (ah 0)) (ex5 := (aq 0)) (ex6 := (az 0)) (ap := ap) (Vp := Vp) h1 l) mt_543 [0, 1] rfl (by decide) ⟨_, _, _, _, List.mem_flatten.mpr ⟨_, List.mem_of_getElem? (i := 0) rfl, List.mem_of_getElem? (i := 0) rfl⟩, rfl⟩ rfl (Nat.le_of_ble_eq_true rfl) ⟨Nat.le_of_ble_eq_true rfl, Nat.le_of_ble_eq_true rfl, hk0, hn0⟩ dL_law_585 ?_
        rintro _ _ ⟨rfl, rfl⟩
        show G E X 4 [xo E ax (ap 0) (ad 0) (an 0) (am 0) (ah 0) (aq 0) (az 0), pd E ap Vp, rd E ad Vd, sc E an Vn, sc E am Vm, hb E ah (ak0 0) (ak1 0) (ak2 0) (ak3 0) (ak4 0) (ak5 0) Vh, sc E ak0 Vk0, sc E ak1 Vk1, sc E ak2 Vk2, sc E ak3 Vk3, sc E ak4 Vk4, sc E ak5 Vk5, qa E aq (as0 0) (as1 0), sc E as0 Vs0, sc E as1 Vs1, za E az Vz, gu, md E ay M] k n [(0, .ref b), (1, .ref (ax 0)), (2, .ref (ay 0)), (3, .int x3)] [.int o1] 588
        refine g_aload_n C dL_law_588 rfl 2 rfl ?_
        refine g_callV (As := []) (rest := [.int o1]) C k_X6_fault (fun l => c_X6_fault (E := E) (a := ay) (V := M) h2 l) mt_826 [17] rfl (by decide) ⟨_, _, _, _, List.mem_flatten.mpr ⟨_, List.mem_of_getElem? (i := 17) rfl, List.mem_of_getElem? (i := 0) rfl⟩, rfl⟩ rfl (Nat.le_of_ble_eq_true rfl) ⟨Nat.le_of_ble_eq_true rfl, Nat.le_of_ble_eq_true rfl, hk0, hn0⟩ dL_law_589 ?_
        rintro _ _ ⟨rfl, rfl⟩
        show G E X 4 [xo E ax (ap 0) (ad 0) (an 0) (am 0) (ah 0) (aq 0) (az 0), pd E ap Vp, rd E ad Vd, sc E an Vn, sc E am Vm, hb E ah (ak0 0) (ak1 0) (ak2 0) (ak3 0) (ak4 0) (ak5 0) Vh, sc E ak0 Vk0, sc E ak1 Vk1, sc E ak2 Vk2, sc E ak3 Vk3, sc E ak4 Vk4, sc E ak5 Vk5, qa E aq (as0 0) (as1 0), sc E as0 Vs0, sc E as1 Vs1, za E az Vz, gu, md E ay M] k n [(0, .ref b), (1, .ref (ax 0)), (2, .ref (ay 0)), (3, .int x3)] [.int o2, .int o1] 592
        refine g_icmp_eq (tgt := 669) C dL_law_592 (by decide) (fun _ => ?_) (fun c => absurd he c)
        refine g_iinc (v := (x3 + (4 : Int32))) (lv2 := [(3, .int (x3 + (4 : Int32))), (0, .ref b), (1, .ref (ax 0)), (2, .ref (ay 0))]) C dL_law_669 3 rfl (ii (by decide)) (by decide) rfl ?_
        refine g_goto (tgt := 18) C dL_law_672 (by decide) ?_
        refine g_sub (lv2 := [(0, .ref b), (1, .ref (ax 0)), (2, .ref (ay 0)), (3, .int (x3 + (4 : Int32)))]) [1, 2, 3, 0] rfl ?_
        exact ih (i + 4) (x3 + (4 : Int32)) k n gu ρ RS Vp Vd Vn Vm Vh Vk0 Vk1 Vk2 Vk3 Vk4 Vk5 Vs0 Vs1 Vz M hi4 hf4 hx4 (by omega) (by omega) hRI hR
      by_cases e19 : (xs (Int32.toNatClampNeg x3)) &&& (31 : Int32) = (19 : Int32)
      · obtain ⟨o1, o2, h1, h2, he, hR⟩ := st_load hN H
        refine g_tin (tgt := 597) C dL_law_32 (by rw [e19] <;> decide) (by rw [e19] <;> decide) (by rw [e19] <;> rfl) (by decide) ?_
        refine g_aload_n C dL_law_597 rfl 1 rfl ?_
        refine g_callV (As := []) (rest := []) C k_X5_load (fun l => c_X5_load (E := E) (ax := ax) (ex3 := (am 0)) (ex5 := (aq 0)) (ex6 := (az 0)) (ap := ap) (Vp := Vp) (ad := ad) (Vd := Vd) (an := an) (Vn := Vn) (ah := ah) (Vh := Vh) (ak0 := ak0) (Vk0 := Vk0) (ak1 := ak1) (Vk1 := Vk1) (ak2 := ak2) (Vk2 := Vk2) (ak3 := ak3) (Vk3 := Vk3) (ak4 := ak4) (Vk4 := Vk4) (ak5 := ak5) (Vk5 := Vk5) h1 l) mt_563 [0, 1, 2, 3, 5, 6, 7, 8, 9, 10, 11] rfl (by decide) ⟨_, _, _, _, List.mem_flatten.mpr ⟨_, List.mem_of_getElem? (i := 0) rfl, List.mem_of_getElem? (i := 0) rfl⟩, rfl⟩ rfl (Nat.le_of_ble_eq_true rfl) ⟨Nat.le_of_ble_eq_true rfl, Nat.le_of_ble_eq_true rfl, hroom1, hroom2⟩ dL_law_598 ?_
        rintro _ Y9 ⟨rfl, hq⟩
        rcases hlast : o1.2.2.2.2.2.2.2.2.2.2.2 with _ | R9
        · rw [hlast] at hq
          subst hq
          show G E X 4 [xo E ax (ap 0) (ad 0) (an 0) (am 0) (ah 0) (aq 0) (az 0), pd E ap o1.2.1, rd E ad o1.2.2.1, sc E an o1.2.2.2.1, sc E am Vm, hb E ah (ak0 0) (ak1 0) (ak2 0) (ak3 0) (ak4 0) (ak5 0) o1.2.2.2.2.1, sc E ak0 o1.2.2.2.2.2.1, sc E ak1 o1.2.2.2.2.2.2.1, sc E ak2 o1.2.2.2.2.2.2.2.1, sc E ak3 o1.2.2.2.2.2.2.2.2.1, sc E ak4 o1.2.2.2.2.2.2.2.2.2.1, sc E ak5 o1.2.2.2.2.2.2.2.2.2.2.1, qa E aq (as0 0) (as1 0), sc E as0 Vs0, sc E as1 Vs1, za E az Vz, gu, md E ay M] (k + 5) (n + 246) [(0, .ref b), (1, .ref (ax 0)), (2, .ref (ay 0)), (3, .int x3)] [.int o1.1] 601
          refine g_aload_n C dL_law_601 rfl 2 rfl ?_
          refine g_callV (As := []) (rest := [.int o1.1]) C k_X6_load (fun l => c_X6_load (E := E) (a := ay) (V := M) h2 l) mt_830 [17] rfl (by decide) ⟨_, _, _, _, List.mem_flatten.mpr ⟨_, List.mem_of_getElem? (i := 17) rfl, List.mem_of_getElem? (i := 0) rfl⟩, rfl⟩ rfl (Nat.le_of_ble_eq_true rfl) ⟨Nat.le_of_ble_eq_true rfl, Nat.le_of_ble_eq_true rfl, hroom1, hroom2⟩ dL_law_602 ?_
          rintro _ _ ⟨rfl, rfl⟩
          show G E X 4 [xo E ax (ap 0) (ad 0) (an 0) (am 0) (ah 0) (aq 0) (az 0), pd E ap o1.2.1, rd E ad o1.2.2.1, sc E an o1.2.2.2.1, sc E am Vm, hb E ah (ak0 0) (ak1 0) (ak2 0) (ak3 0) (ak4 0) (ak5 0) o1.2.2.2.2.1, sc E ak0 o1.2.2.2.2.2.1, sc E ak1 o1.2.2.2.2.2.2.1, sc E ak2 o1.2.2.2.2.2.2.2.1, sc E ak3 o1.2.2.2.2.2.2.2.2.1, sc E ak4 o1.2.2.2.2.2.2.2.2.2.1, sc E ak5 o1.2.2.2.2.2.2.2.2.2.2.1, qa E aq (as0 0) (as1 0), sc E as0 Vs0, sc E as1 Vs1, za E az Vz, gu, md E ay o2.2] (k + 5) (n + 246) [(0, .ref b), (1, .ref (ax 0)), (2, .ref (ay 0)), (3, .int x3)] [.int o2.1, .int o1.1] 605
          refine g_icmp_eq (tgt := 669) C dL_law_605 (by decide) (fun _ => ?_) (fun c => absurd he c)
          refine g_iinc (v := (x3 + (4 : Int32))) (lv2 := [(3, .int (x3 + (4 : Int32))), (0, .ref b), (1, .ref (ax 0)), (2, .ref (ay 0))]) C dL_law_669 3 rfl (ii (by decide)) (by decide) rfl ?_
          refine g_goto (tgt := 18) C dL_law_672 (by decide) ?_
          refine g_sub (lv2 := [(0, .ref b), (1, .ref (ax 0)), (2, .ref (ay 0)), (3, .int (x3 + (4 : Int32)))]) [1, 2, 3, 0] rfl ?_
          exact ih (i + 4) (x3 + (4 : Int32)) (k + 5) (n + 246) gu ρ RS o1.2.1 o1.2.2.1 o1.2.2.2.1 Vm o1.2.2.2.2.1 o1.2.2.2.2.2.1 o1.2.2.2.2.2.2.1 o1.2.2.2.2.2.2.2.1 o1.2.2.2.2.2.2.2.2.1 o1.2.2.2.2.2.2.2.2.2.1 o1.2.2.2.2.2.2.2.2.2.2.1 Vs0 Vs1 Vz o2.2 hi4 hf4 hx4 (by omega) (by omega) hRI (hR.1 hlast)
        · rw [hlast] at hq
          obtain ⟨ar, rfl⟩ := hq
          show G E X 4 [xo E ax (ap 0) (ad 0) (an 0) (am 0) (ah 0) (aq 0) (az 0), pd E ap o1.2.1, rd E ad o1.2.2.1, sc E an (setr o1.2.2.2.1 (ar 0)), sc E am Vm, hb E ah (ak0 0) (ak1 0) (ak2 0) (ak3 0) (ak4 0) (ak5 0) o1.2.2.2.2.1, sc E ak0 o1.2.2.2.2.2.1, sc E ak1 o1.2.2.2.2.2.2.1, sc E ak2 o1.2.2.2.2.2.2.2.1, sc E ak3 o1.2.2.2.2.2.2.2.2.1, sc E ak4 o1.2.2.2.2.2.2.2.2.2.1, sc E ak5 o1.2.2.2.2.2.2.2.2.2.2.1, qa E aq (as0 0) (as1 0), sc E as0 Vs0, sc E as1 Vs1, za E az Vz, gu, md E ay M, ru E (ar 0) ar R9] (k + 5) (n + 246) [(0, .ref b), (1, .ref (ax 0)), (2, .ref (ay 0)), (3, .int x3)] [.int o1.1] 601
          refine g_aload_n C dL_law_601 rfl 2 rfl ?_
          refine g_callV (As := []) (rest := [.int o1.1]) C k_X6_load (fun l => c_X6_load (E := E) (a := ay) (V := M) h2 l) mt_830 [17] rfl (by decide) ⟨_, _, _, _, List.mem_flatten.mpr ⟨_, List.mem_of_getElem? (i := 17) rfl, List.mem_of_getElem? (i := 0) rfl⟩, rfl⟩ rfl (Nat.le_of_ble_eq_true rfl) ⟨Nat.le_of_ble_eq_true rfl, Nat.le_of_ble_eq_true rfl, hroom1, hroom2⟩ dL_law_602 ?_
          rintro _ _ ⟨rfl, rfl⟩
          show G E X 4 [xo E ax (ap 0) (ad 0) (an 0) (am 0) (ah 0) (aq 0) (az 0), pd E ap o1.2.1, rd E ad o1.2.2.1, sc E an (setr o1.2.2.2.1 (ar 0)), sc E am Vm, hb E ah (ak0 0) (ak1 0) (ak2 0) (ak3 0) (ak4 0) (ak5 0) o1.2.2.2.2.1, sc E ak0 o1.2.2.2.2.2.1, sc E ak1 o1.2.2.2.2.2.2.1, sc E ak2 o1.2.2.2.2.2.2.2.1, sc E ak3 o1.2.2.2.2.2.2.2.2.1, sc E ak4 o1.2.2.2.2.2.2.2.2.2.1, sc E ak5 o1.2.2.2.2.2.2.2.2.2.2.1, qa E aq (as0 0) (as1 0), sc E as0 Vs0, sc E as1 Vs1, za E az Vz, gu, md E ay o2.2, ru E (ar 0) ar R9] (k + 5) (n + 246) [(0, .ref b), (1, .ref (ax 0)), (2, .ref (ay 0)), (3, .int x3)] [.int o2.1, .int o1.1] 605
          refine g_icmp_eq (tgt := 669) C dL_law_605 (by decide) (fun _ => ?_) (fun c => absurd he c)
          refine g_dist (fun hpw => ?_)
          have hfresh : ∀ r, RS r → r ≠ ar 0 := fun r hr => by
            obtain ⟨b9, hb9⟩ := hRI r hr
            exact dist2 hpw (i := 16) (j := 18) (by decide) rfl rfl (hb9 _ (List.mem_of_getElem? (l := ru E r b9 (ρ r)) (i := 0) rfl)) (List.mem_of_getElem? (l := ru E (ar 0) ar R9) (i := 0) rfl)
          have hRI2 : ∀ r, (RS r ∨ r = ar 0) → RIn E (gu ++ ru E (ar 0) ar R9) r (if r = ar 0 then R9 else ρ r) := fun r hr => by
            rcases hr with hr | rfl
            · rw [if_neg (hfresh r hr)]
              obtain ⟨b9, hb9⟩ := hRI r hr
              exact ⟨b9, fun c hc => List.mem_append_left _ (hb9 c hc)⟩
            · rw [if_pos rfl]
              exact ⟨ar, fun c hc => List.mem_append_right _ hc⟩
          refine g_pick [0, 1, 2, 3, 4, 5, 6, 7, 8, 9, 10, 11, 12, 13, 14, 15, 16, 18, 17] (Yc := [xo E ax (ap 0) (ad 0) (an 0) (am 0) (ah 0) (aq 0) (az 0), pd E ap o1.2.1, rd E ad o1.2.2.1, sc E an (setr o1.2.2.2.1 (ar 0)), sc E am Vm, hb E ah (ak0 0) (ak1 0) (ak2 0) (ak3 0) (ak4 0) (ak5 0) o1.2.2.2.2.1, sc E ak0 o1.2.2.2.2.2.1, sc E ak1 o1.2.2.2.2.2.2.1, sc E ak2 o1.2.2.2.2.2.2.2.1, sc E ak3 o1.2.2.2.2.2.2.2.2.1, sc E ak4 o1.2.2.2.2.2.2.2.2.2.1, sc E ak5 o1.2.2.2.2.2.2.2.2.2.2.1, qa E aq (as0 0) (as1 0), sc E as0 Vs0, sc E as1 Vs1, za E az Vz, gu, ru E (ar 0) ar R9, md E ay o2.2]) rfl (by decide) rfl ?_
          refine g_cut (Y2 := [xo E ax (ap 0) (ad 0) (an 0) (am 0) (ah 0) (aq 0) (az 0), pd E ap o1.2.1, rd E ad o1.2.2.1, sc E an (setr o1.2.2.2.1 (ar 0)), sc E am Vm, hb E ah (ak0 0) (ak1 0) (ak2 0) (ak3 0) (ak4 0) (ak5 0) o1.2.2.2.2.1, sc E ak0 o1.2.2.2.2.2.1, sc E ak1 o1.2.2.2.2.2.2.1, sc E ak2 o1.2.2.2.2.2.2.2.1, sc E ak3 o1.2.2.2.2.2.2.2.2.1, sc E ak4 o1.2.2.2.2.2.2.2.2.2.1, sc E ak5 o1.2.2.2.2.2.2.2.2.2.2.1, qa E aq (as0 0) (as1 0), sc E as0 Vs0, sc E as1 Vs1, za E az Vz, (gu ++ ru E (ar 0) ar R9), md E ay o2.2]) (List.Perm.of_eq (by simp only [List.flatten_cons, List.append_assoc])) ?_
          refine g_iinc (v := (x3 + (4 : Int32))) (lv2 := [(3, .int (x3 + (4 : Int32))), (0, .ref b), (1, .ref (ax 0)), (2, .ref (ay 0))]) C dL_law_669 3 rfl (ii (by decide)) (by decide) rfl ?_
          refine g_goto (tgt := 18) C dL_law_672 (by decide) ?_
          refine g_sub (lv2 := [(0, .ref b), (1, .ref (ax 0)), (2, .ref (ay 0)), (3, .int (x3 + (4 : Int32)))]) [1, 2, 3, 0] rfl ?_
          exact ih (i + 4) (x3 + (4 : Int32)) (k + 5) (n + 246) (gu ++ ru E (ar 0) ar R9) (fun r => if r = ar 0 then R9 else ρ r) (fun r => RS r ∨ r = ar 0) o1.2.1 o1.2.2.1 (setr o1.2.2.2.1 (ar 0)) Vm o1.2.2.2.2.1 o1.2.2.2.2.2.1 o1.2.2.2.2.2.2.1 o1.2.2.2.2.2.2.2.1 o1.2.2.2.2.2.2.2.2.1 o1.2.2.2.2.2.2.2.2.2.1 o1.2.2.2.2.2.2.2.2.2.2.1 Vs0 Vs1 Vz o2.2 hi4 hf4 hx4 (by omega) (by omega) hRI2 (hR.2 R9 hlast (ar 0) _ _ (fun r hr => ⟨if_neg (hfresh r hr), Or.inl hr⟩) (if_pos rfl) (Or.inr rfl))
      by_cases e20 : (xs (Int32.toNatClampNeg x3)) &&& (31 : Int32) = (20 : Int32)
      · obtain ⟨o1, o2, h1, h2, he, hR⟩ := st_undo hN H
        refine g_tin (tgt := 610) C dL_law_32 (by rw [e20] <;> decide) (by rw [e20] <;> decide) (by rw [e20] <;> rfl) (by decide) ?_
        refine g_aload_n C dL_law_610 rfl 1 rfl ?_
        refine g_callV (As := []) (rest := []) C k_X5_undo (fun l => c_X5_undo (E := E) (ax := ax) (ex0 := (ap 0)) (ex1 := (ad 0)) (ex3 := (am 0)) (ex5 := (aq 0)) (ex6 := (az 0)) (an := an) (Vn := Vn) (ah := ah) (Vh := Vh) (ak0 := ak0) (Vk0 := Vk0) (ak1 := ak1) (Vk1 := Vk1) (ak2 := ak2) (Vk2 := Vk2) (ak3 := ak3) (Vk3 := Vk3) (ak4 := ak4) (Vk4 := Vk4) (ak5 := ak5) (Vk5 := Vk5) h1 l) mt_567 [0, 3, 5, 6, 7, 8, 9, 10, 11] rfl (by decide) ⟨_, _, _, _, List.mem_flatten.mpr ⟨_, List.mem_of_getElem? (i := 0) rfl, List.mem_of_getElem? (i := 0) rfl⟩, rfl⟩ rfl (Nat.le_of_ble_eq_true rfl) ⟨Nat.le_of_ble_eq_true rfl, Nat.le_of_ble_eq_true rfl, hk0, hn0⟩ dL_law_611 ?_
        rintro _ _ ⟨rfl, rfl⟩
        show G E X 4 [xo E ax (ap 0) (ad 0) (an 0) (am 0) (ah 0) (aq 0) (az 0), pd E ap Vp, rd E ad Vd, sc E an o1.2.1, sc E am Vm, hb E ah (ak0 0) (ak1 0) (ak2 0) (ak3 0) (ak4 0) (ak5 0) o1.2.2, sc E ak0 Vk0, sc E ak1 Vk1, sc E ak2 Vk2, sc E ak3 Vk3, sc E ak4 Vk4, sc E ak5 Vk5, qa E aq (as0 0) (as1 0), sc E as0 Vs0, sc E as1 Vs1, za E az Vz, gu, md E ay M] k n [(0, .ref b), (1, .ref (ax 0)), (2, .ref (ay 0)), (3, .int x3)] [.int o1.1] 614
        refine g_aload_n C dL_law_614 rfl 2 rfl ?_
        refine g_callV (As := []) (rest := [.int o1.1]) C k_X6_undo (fun l => c_X6_undo (E := E) (a := ay) (V := M) h2 l) mt_632 [17] rfl (by decide) ⟨_, _, _, _, List.mem_flatten.mpr ⟨_, List.mem_of_getElem? (i := 17) rfl, List.mem_of_getElem? (i := 0) rfl⟩, rfl⟩ rfl (Nat.le_of_ble_eq_true rfl) ⟨Nat.le_of_ble_eq_true rfl, Nat.le_of_ble_eq_true rfl, hk0, hn0⟩ dL_law_615 ?_
        rintro _ _ ⟨rfl, rfl⟩
        show G E X 4 [xo E ax (ap 0) (ad 0) (an 0) (am 0) (ah 0) (aq 0) (az 0), pd E ap Vp, rd E ad Vd, sc E an o1.2.1, sc E am Vm, hb E ah (ak0 0) (ak1 0) (ak2 0) (ak3 0) (ak4 0) (ak5 0) o1.2.2, sc E ak0 Vk0, sc E ak1 Vk1, sc E ak2 Vk2, sc E ak3 Vk3, sc E ak4 Vk4, sc E ak5 Vk5, qa E aq (as0 0) (as1 0), sc E as0 Vs0, sc E as1 Vs1, za E az Vz, gu, md E ay o2.2] k n [(0, .ref b), (1, .ref (ax 0)), (2, .ref (ay 0)), (3, .int x3)] [.int o2.1, .int o1.1] 618
        refine g_icmp_eq (tgt := 669) C dL_law_618 (by decide) (fun _ => ?_) (fun c => absurd he c)
        refine g_iinc (v := (x3 + (4 : Int32))) (lv2 := [(3, .int (x3 + (4 : Int32))), (0, .ref b), (1, .ref (ax 0)), (2, .ref (ay 0))]) C dL_law_669 3 rfl (ii (by decide)) (by decide) rfl ?_
        refine g_goto (tgt := 18) C dL_law_672 (by decide) ?_
        refine g_sub (lv2 := [(0, .ref b), (1, .ref (ax 0)), (2, .ref (ay 0)), (3, .int (x3 + (4 : Int32)))]) [1, 2, 3, 0] rfl ?_
        exact ih (i + 4) (x3 + (4 : Int32)) k n gu ρ RS Vp Vd o1.2.1 Vm o1.2.2 Vk0 Vk1 Vk2 Vk3 Vk4 Vk5 Vs0 Vs1 Vz o2.2 hi4 hf4 hx4 (by omega) (by omega) hRI hR
      by_cases e21 : (xs (Int32.toNatClampNeg x3)) &&& (31 : Int32) = (21 : Int32)
      · obtain ⟨o1, o2, h1, h2, he, hR⟩ := st_save hN H (xs (Int32.toNatClampNeg (x3 + (1 : Int32))))
        refine g_tin (tgt := 623) C dL_law_32 (by rw [e21] <;> decide) (by rw [e21] <;> decide) (by rw [e21] <;> rfl) (by decide) ?_
        refine g_aload_n C dL_law_623 rfl 1 rfl ?_
        refine g_aload_n C dL_law_624 rfl 0 rfl ?_
        refine g_iload_n C dL_law_625 rfl 3 rfl ?_
        refine g_iconst (v := (1 : Int32)) C dL_law_626 (by decide) ?_
        refine g_iadd C dL_law_627 ?_
        refine g_sld C hSx hin1 dL_law_628 ?_
        refine g_callV (As := [.int (xs (Int32.toNatClampNeg (x3 + (1 : Int32))))]) (rest := []) C k_X5_save (fun l => c_X5_save (E := E) (ax := ax) (ex0 := (ap 0)) (ex1 := (ad 0)) (ex3 := (am 0)) (ex4 := (ah 0)) (an := an) (Vn := Vn) (aq := aq) (as0 := as0) (Vs0 := Vs0) (as1 := as1) (Vs1 := Vs1) (az := az) (Vz := Vz) h1 l) mt_575 [0, 3, 12, 13, 14, 15] rfl (by decide) ⟨_, _, _, _, List.mem_flatten.mpr ⟨_, List.mem_of_getElem? (i := 0) rfl, List.mem_of_getElem? (i := 0) rfl⟩, rfl⟩ rfl (Nat.le_of_ble_eq_true rfl) ⟨Nat.le_of_ble_eq_true rfl, Nat.le_of_ble_eq_true rfl, hk0, hn0⟩ dL_law_629 ?_
        rintro _ _ ⟨rfl, rfl⟩
        show G E X 4 [xo E ax (ap 0) (ad 0) (an 0) (am 0) (ah 0) (aq 0) (az 0), pd E ap Vp, rd E ad Vd, sc E an Vn, sc E am Vm, hb E ah (ak0 0) (ak1 0) (ak2 0) (ak3 0) (ak4 0) (ak5 0) Vh, sc E ak0 Vk0, sc E ak1 Vk1, sc E ak2 Vk2, sc E ak3 Vk3, sc E ak4 Vk4, sc E ak5 Vk5, qa E aq (as0 0) (as1 0), sc E as0 o1.2.1, sc E as1 o1.2.2.1, za E az o1.2.2.2, gu, md E ay M] k n [(0, .ref b), (1, .ref (ax 0)), (2, .ref (ay 0)), (3, .int x3)] [.int o1.1] 632
        refine g_aload_n C dL_law_632 rfl 2 rfl ?_
        refine g_aload_n C dL_law_633 rfl 0 rfl ?_
        refine g_iload_n C dL_law_634 rfl 3 rfl ?_
        refine g_iconst (v := (1 : Int32)) C dL_law_635 (by decide) ?_
        refine g_iadd C dL_law_636 ?_
        refine g_sld C hSx hin1 dL_law_637 ?_
        refine g_callV (As := [.int (xs (Int32.toNatClampNeg (x3 + (1 : Int32))))]) (rest := [.int o1.1]) C k_X6_save (fun l => c_X6_save (E := E) (a := ay) (V := M) h2 l) mt_636 [17] rfl (by decide) ⟨_, _, _, _, List.mem_flatten.mpr ⟨_, List.mem_of_getElem? (i := 17) rfl, List.mem_of_getElem? (i := 0) rfl⟩, rfl⟩ rfl (Nat.le_of_ble_eq_true rfl) ⟨Nat.le_of_ble_eq_true rfl, Nat.le_of_ble_eq_true rfl, hk0, hn0⟩ dL_law_638 ?_
        rintro _ _ ⟨rfl, rfl⟩
        show G E X 4 [xo E ax (ap 0) (ad 0) (an 0) (am 0) (ah 0) (aq 0) (az 0), pd E ap Vp, rd E ad Vd, sc E an Vn, sc E am Vm, hb E ah (ak0 0) (ak1 0) (ak2 0) (ak3 0) (ak4 0) (ak5 0) Vh, sc E ak0 Vk0, sc E ak1 Vk1, sc E ak2 Vk2, sc E ak3 Vk3, sc E ak4 Vk4, sc E ak5 Vk5, qa E aq (as0 0) (as1 0), sc E as0 o1.2.1, sc E as1 o1.2.2.1, za E az o1.2.2.2, gu, md E ay o2.2] k n [(0, .ref b), (1, .ref (ax 0)), (2, .ref (ay 0)), (3, .int x3)] [.int o2.1, .int o1.1] 641
        refine g_icmp_eq (tgt := 669) C dL_law_641 (by decide) (fun _ => ?_) (fun c => absurd he c)
        refine g_iinc (v := (x3 + (4 : Int32))) (lv2 := [(3, .int (x3 + (4 : Int32))), (0, .ref b), (1, .ref (ax 0)), (2, .ref (ay 0))]) C dL_law_669 3 rfl (ii (by decide)) (by decide) rfl ?_
        refine g_goto (tgt := 18) C dL_law_672 (by decide) ?_
        refine g_sub (lv2 := [(0, .ref b), (1, .ref (ax 0)), (2, .ref (ay 0)), (3, .int (x3 + (4 : Int32)))]) [1, 2, 3, 0] rfl ?_
        exact ih (i + 4) (x3 + (4 : Int32)) k n gu ρ RS Vp Vd Vn Vm Vh Vk0 Vk1 Vk2 Vk3 Vk4 Vk5 o1.2.1 o1.2.2.1 o1.2.2.2 o2.2 hi4 hf4 hx4 (by omega) (by omega) hRI hR
      by_cases e22 : (xs (Int32.toNatClampNeg x3)) &&& (31 : Int32) = (22 : Int32)
      · obtain ⟨o1, o2, h1, h2, he, hR⟩ := st_restore hN H (xs (Int32.toNatClampNeg (x3 + (1 : Int32))))
        refine g_tin (tgt := 646) C dL_law_32 (by rw [e22] <;> decide) (by rw [e22] <;> decide) (by rw [e22] <;> rfl) (by decide) ?_
        refine g_aload_n C dL_law_646 rfl 1 rfl ?_
        refine g_aload_n C dL_law_647 rfl 0 rfl ?_
        refine g_iload_n C dL_law_648 rfl 3 rfl ?_
        refine g_iconst (v := (1 : Int32)) C dL_law_649 (by decide) ?_
        refine g_iadd C dL_law_650 ?_
        refine g_sld C hSx hin1 dL_law_651 ?_
        refine g_callV (As := [.int (xs (Int32.toNatClampNeg (x3 + (1 : Int32))))]) (rest := []) C k_X5_restore (fun l => c_X5_restore (E := E) (ax := ax) (ex0 := (ap 0)) (ex1 := (ad 0)) (ex3 := (am 0)) (an := an) (Vn := Vn) (ah := ah) (Vh := Vh) (ak0 := ak0) (Vk0 := Vk0) (ak1 := ak1) (Vk1 := Vk1) (ak2 := ak2) (Vk2 := Vk2) (ak3 := ak3) (Vk3 := Vk3) (ak4 := ak4) (Vk4 := Vk4) (ak5 := ak5) (Vk5 := Vk5) (aq := aq) (as0 := as0) (Vs0 := Vs0) (as1 := as1) (Vs1 := Vs1) (az := az) (Vz := Vz) h1 l) mt_579 [0, 3, 5, 6, 7, 8, 9, 10, 11, 12, 13, 14, 15] rfl (by decide) ⟨_, _, _, _, List.mem_flatten.mpr ⟨_, List.mem_of_getElem? (i := 0) rfl, List.mem_of_getElem? (i := 0) rfl⟩, rfl⟩ rfl (Nat.le_of_ble_eq_true rfl) ⟨Nat.le_of_ble_eq_true rfl, Nat.le_of_ble_eq_true rfl, hk0, hn0⟩ dL_law_652 ?_
        rintro _ _ ⟨rfl, rfl⟩
        show G E X 4 [xo E ax (ap 0) (ad 0) (an 0) (am 0) (ah 0) (aq 0) (az 0), pd E ap Vp, rd E ad Vd, sc E an o1.2.1, sc E am Vm, hb E ah (ak0 0) (ak1 0) (ak2 0) (ak3 0) (ak4 0) (ak5 0) o1.2.2.1, sc E ak0 o1.2.2.2.1, sc E ak1 o1.2.2.2.2.1, sc E ak2 o1.2.2.2.2.2.1, sc E ak3 o1.2.2.2.2.2.2.1, sc E ak4 o1.2.2.2.2.2.2.2.1, sc E ak5 o1.2.2.2.2.2.2.2.2, qa E aq (as0 0) (as1 0), sc E as0 Vs0, sc E as1 Vs1, za E az Vz, gu, md E ay M] k n [(0, .ref b), (1, .ref (ax 0)), (2, .ref (ay 0)), (3, .int x3)] [.int o1.1] 655
        refine g_aload_n C dL_law_655 rfl 2 rfl ?_
        refine g_aload_n C dL_law_656 rfl 0 rfl ?_
        refine g_iload_n C dL_law_657 rfl 3 rfl ?_
        refine g_iconst (v := (1 : Int32)) C dL_law_658 (by decide) ?_
        refine g_iadd C dL_law_659 ?_
        refine g_sld C hSx hin1 dL_law_660 ?_
        refine g_callV (As := [.int (xs (Int32.toNatClampNeg (x3 + (1 : Int32))))]) (rest := [.int o1.1]) C k_X6_restore (fun l => c_X6_restore (E := E) (a := ay) (V := M) h2 l) mt_643 [17] rfl (by decide) ⟨_, _, _, _, List.mem_flatten.mpr ⟨_, List.mem_of_getElem? (i := 17) rfl, List.mem_of_getElem? (i := 0) rfl⟩, rfl⟩ rfl (Nat.le_of_ble_eq_true rfl) ⟨Nat.le_of_ble_eq_true rfl, Nat.le_of_ble_eq_true rfl, hk0, hn0⟩ dL_law_661 ?_
        rintro _ _ ⟨rfl, rfl⟩
        show G E X 4 [xo E ax (ap 0) (ad 0) (an 0) (am 0) (ah 0) (aq 0) (az 0), pd E ap Vp, rd E ad Vd, sc E an o1.2.1, sc E am Vm, hb E ah (ak0 0) (ak1 0) (ak2 0) (ak3 0) (ak4 0) (ak5 0) o1.2.2.1, sc E ak0 o1.2.2.2.1, sc E ak1 o1.2.2.2.2.1, sc E ak2 o1.2.2.2.2.2.1, sc E ak3 o1.2.2.2.2.2.2.1, sc E ak4 o1.2.2.2.2.2.2.2.1, sc E ak5 o1.2.2.2.2.2.2.2.2, qa E aq (as0 0) (as1 0), sc E as0 Vs0, sc E as1 Vs1, za E az Vz, gu, md E ay o2.2] k n [(0, .ref b), (1, .ref (ax 0)), (2, .ref (ay 0)), (3, .int x3)] [.int o2.1, .int o1.1] 664
        refine g_icmp_eq (tgt := 669) C dL_law_664 (by decide) (fun _ => ?_) (fun c => absurd he c)
        refine g_iinc (v := (x3 + (4 : Int32))) (lv2 := [(3, .int (x3 + (4 : Int32))), (0, .ref b), (1, .ref (ax 0)), (2, .ref (ay 0))]) C dL_law_669 3 rfl (ii (by decide)) (by decide) rfl ?_
        refine g_goto (tgt := 18) C dL_law_672 (by decide) ?_
        refine g_sub (lv2 := [(0, .ref b), (1, .ref (ax 0)), (2, .ref (ay 0)), (3, .int (x3 + (4 : Int32)))]) [1, 2, 3, 0] rfl ?_
        exact ih (i + 4) (x3 + (4 : Int32)) k n gu ρ RS Vp Vd o1.2.1 Vm o1.2.2.1 o1.2.2.2.1 o1.2.2.2.2.1 o1.2.2.2.2.2.1 o1.2.2.2.2.2.2.1 o1.2.2.2.2.2.2.2.1 o1.2.2.2.2.2.2.2.2 Vs0 Vs1 Vz o2.2 hi4 hf4 hx4 (by omega) (by omega) hRI hR
      refine g_tout (tgt := 669) C dL_law_32 (by have e90 := ne_ti (a := 0) e0 rfl; have e91 := ne_ti (a := 1) e1 rfl; have e92 := ne_ti (a := 2) e2 rfl; have e93 := ne_ti (a := 3) e3 rfl; have e94 := ne_ti (a := 4) e4 rfl; have e95 := ne_ti (a := 5) e5 rfl; have e96 := ne_ti (a := 6) e6 rfl; have e97 := ne_ti (a := 7) e7 rfl; have e98 := ne_ti (a := 8) e8 rfl; have e99 := ne_ti (a := 9) e9 rfl; have e910 := ne_ti (a := 10) e10 rfl; have e911 := ne_ti (a := 11) e11 rfl; have e912 := ne_ti (a := 12) e12 rfl; have e913 := ne_ti (a := 13) e13 rfl; have e914 := ne_ti (a := 14) e14 rfl; have e915 := ne_ti (a := 15) e15 rfl; have e916 := ne_ti (a := 16) e16 rfl; have e917 := ne_ti (a := 17) e17 rfl; have e918 := ne_ti (a := 18) e18 rfl; have e919 := ne_ti (a := 19) e19 rfl; have e920 := ne_ti (a := 20) e20 rfl; have e921 := ne_ti (a := 21) e21 rfl; have e922 := ne_ti (a := 22) e22 rfl; omega) (by decide) ?_
      refine g_iinc (v := (x3 + (4 : Int32))) (lv2 := [(3, .int (x3 + (4 : Int32))), (0, .ref b), (1, .ref (ax 0)), (2, .ref (ay 0))]) C dL_law_669 3 rfl (ii (by decide)) (by decide) rfl ?_
      refine g_goto (tgt := 18) C dL_law_672 (by decide) ?_
      refine g_sub (lv2 := [(0, .ref b), (1, .ref (ax 0)), (2, .ref (ay 0)), (3, .int (x3 + (4 : Int32)))]) [1, 2, 3, 0] rfl ?_
      exact ih (i + 4) (x3 + (4 : Int32)) k n gu ρ RS Vp Vd Vn Vm Vh Vk0 Vk1 Vk2 Vk3 Vk4 Vk5 Vs0 Vs1 Vz M hi4 hf4 hx4 (by omega) (by omega) hRI H
