/-! THE JUDGEMENT G: at a program counter, with these segments, locals and stack, the machine comes to its end -/
abbrev Cx : Type := Program × Launch × Env × Room × State × MethodId × Array Value × List Frame × Method × Code × (Nat → Prop) × (State → Prop)
def G (E : Ev) (X : Cx) (mL : Nat) (Y : List va_W) (k n : Nat) (lv : List (Nat × Value)) (st : List Value) (pc : Nat) : Prop := match X with
  | (p, l, e, R, s, m, args, below, meth, c, A, Q) => ∀ (H : Heap) (locs : List Loc) (ls : Array Slot), va_P E.1 vwCl Y.flatten H → va_D A Y.flatten → va_S A s.heap H locs → lv_has ls mL lv → W p l e R s m args below meth c H locs k n Q (F0 m pc ls st)
/-- what stands during a method: the machine, its code, the tables, statics outside its cells -/
def Ct (E : Ev) (X : Cx) (cc : ByteArray) (own : String) (rm : Room) (mL : Nat) : Prop := match X with
  | (p, _, _, R, s, m, args, _, _, c, A, _) => p.tables.exec = Jvm.exec ∧ c.code = cc ∧ c.maxLocals = mL ∧ s.vm.findClass own = some m.cls ∧ (∀ w ∈ tb, w.before args s = true) ∧ KE E s ∧ SE E A s s.heap ∧ NE E s ∧ (∀ q, s.heap.size ≤ q → A q) ∧ R = rm
def QG (E : Ev) (post : Option Value → List va_W → Prop) (A : Nat → Prop) : Array Value → State → Outcome → State → Prop := fun _ st oc t => (∃ (v : Option Value) (Y : List va_W), oc = .returned v ∧ post v Y ∧ va_P E.1 vwCl Y.flatten t.heap ∧ KE E t ∧ va_D A Y.flatten) ∧ va_F A st t
/-- how a method ends -/
def Cr (E : Ev) (X : Cx) (post : Option Value → List va_W → Prop) (rm : Room) (ret : Option FieldType) : Prop := match X with
  | (_, _, _, _, s, _, args, below, meth, _, A, Q) => Q = MQ below (QG E post A) args s rm.cells rm.slots A ∧ meth.locks = false ∧ meth.sig.returnType = ret
def Ci (X : Cx) : Prop := match X with
  | (_, _, _, _, _, _, _, _, meth, _, _, _) => meth.name = "<init>"
/-- a contract: over these segments the method comes back, with an answer and segments of which 'post' holds -/
def MG (l : Launch) (y : MethodName) (cd : ByteArray) (mL : Nat) (ret : Option FieldType) (rm : Room) (E : Ev) (av : List Value) (Y : List va_W) (post : Option Value → List va_W → Prop) : Prop :=
  ∀ sz : Nat, Met l y (Cond.code y cd mL ret :: tb) rm (va_Pc av (fun U => U.heap.size = sz ∧ va_P E.1 vwCl Y.flatten U.heap ∧ KE E U ∧ va_D (fun _ => True) Y.flatten ∧ SE E (va_A Y.flatten sz) U U.heap ∧ NE E U)) (QG E post (va_A Y.flatten sz)) rm.cells rm.slots (va_A Y.flatten sz)
theorem MG.mk {y : MethodName} {cd : ByteArray} {mL : Nat} {ret : Option FieldType} {rm : Room} {E : Ev} {av : List Value} {Y : List va_W} {post : Option Value → List va_W → Prop} {own : String} {lv0 : List (Nat × Value)} (hy : plainName y.cls = true) (hcls : y.cls = own) (hlen : (lg_sl av).length ≤ mL) (hlv : lv_args 0 av = lv0)
    (body : ∀ X : Cx, Ct E X cd own rm mL → Cr E X post rm ret → (y.name = "<init>" → Ci X) → G E X mL Y 0 0 lv0 [] 0) : ∀ l, MG l y cd mL ret rm E av Y post := by
  intro l sz
  refine Met.ofW (cc := cd) (maxL := mL) (ret := ret) hy rfl ?_
  intro p e s m args below meth c s₁ B hml hv
  obtain ⟨rfl, hsz, hP, hK, hD0, hS0, hN⟩ := hv
  subst hsz
  subst hlv
  subst hcls
  have hpre := atoms_spec (ws := Cond.code y cd mL ret :: tb) B.pre
  have h := body (p, l, e, _, s, m, av.toArray, below, meth, c, va_A Y.flatten s.heap.size, _) ⟨B.exec, B.bytes, hml, findClass_of_methodNamed B.named, fun w hw => hpre w (List.mem_cons_of_mem _ hw), hK, hS0, hN, fun q hq => Or.inr hq, rfl⟩ ⟨rfl, B.notSynchronized, B.returns⟩ (fun hn => by
    show meth.name = "<init>"
    rw [← hn]; exact (name_of_methodNamed B.named B.method).1)
  have hl := lv_entry av (n := mL) hlen
  rw [lg_entry_eq]
  exact h _ [] _ hP hD0.self va_S.rf hl
theorem goodTb {ws : List Cond} (h : ∀ w ∈ ws, w ∈ tb) : GoodIn tb ws := fun w hw => ⟨h w hw, tb_good (h w hw)⟩
def CF (y : MethodName) (cd : ByteArray) (mL : Nat) (ret : Option FieldType) (n : Nat) : Prop := Cond.instanceMethod y ∈ tb ∧ Cond.selects y.cls y y ∈ tb ∧ Cond.initialized y.cls ∈ tb ∧ Cond.code y cd mL ret ∈ tb ∧ (y.cls = y.cls ∧ y.cls ≠ "java/lang/invoke/MethodHandle" ∧ y.cls ≠ "java/lang/invoke/VarHandle" ∧ (parseMethodDescriptor y.desc).map (fun d => d.parameters.length) = some n)
def CFs (y : MethodName) (cd : ByteArray) (mL : Nat) (ret : Option FieldType) (n : Nat) : Prop := Cond.static y ∈ tb ∧ Cond.initialized y.cls ∈ tb ∧ Cond.code y cd mL ret ∈ tb ∧ (y.cls ≠ "java/lang/invoke/MethodHandle" ∧ y.cls ≠ "java/lang/invoke/VarHandle" ∧ (parseMethodDescriptor y.desc).map (fun d => d.parameters.length) = some n)
def CFi (y : MethodName) (cd : ByteArray) (mL : Nat) (n : Nat) : Prop := Cond.instanceMethod y ∈ tb ∧ Cond.initialized y.cls ∈ tb ∧ Cond.code y cd mL none ∈ tb ∧ y.name = "<init>" ∧ (y.cls ≠ "java/lang/invoke/MethodHandle" ∧ y.cls ≠ "java/lang/invoke/VarHandle" ∧ (parseMethodDescriptor y.desc).map (fun d => d.parameters.length) = some n)
section GR
variable {E : Ev} {X : Cx} {cc : ByteArray} {own : String} {rm : Room} {mL : Nat} {Y : List va_W} {k n : Nat} {lv : List (Nat × Value)} {rest st : List Value} {pc : Nat}
theorem goodCall {y : MethodName} {cd : ByteArray} {m9 : Nat} {ret : Option FieldType} (h : Cond.code y cd m9 ret ∈ tb) : GoodIn tb (Cond.code y cd m9 ret :: tb) := goodTb (fun w hw => by
  rcases List.mem_cons.mp hw with e | e
  · rw [e]; exact h
  · exact e)
/-- what a call needs: cut out the callee's segments, put back what comes -/
theorem g_run {p : Program} {l : Launch} {e : Env} {R : Room} {s : State} {m : MethodId} {args : Array Value} {below : List Frame} {meth : Method} {c : Code} {A : Nat → Prop} {Q : State → Prop} {post : Option Value → List va_W → Prop} {Yc : List va_W} {ic : List Nat} {av : Array Value} {mc ms : Nat} {free : Addr → Prop}
    (hS0 : ∀ q, s.heap.size ≤ q → A q) (hic : ic.map (fun i => Y[i]?) = Yc.map some) (hn : ic.Nodup) {H : Heap} {locs : List Loc} {ls : Array Slot} (hP : va_P E.1 vwCl Y.flatten H) (hD : va_D A Y.flatten) (hS : va_S A s.heap H locs) (hl : lv_has ls mL lv) (hfree : ∀ q, free q → va_A Yc.flatten H.size q)
    (hr : va_Run p l e R s m args below meth c H locs k n mc ms (F0 m pc ls st) rest (QG E post (va_A Yc.flatten H.size) av) free)
    (kk : ∀ v Y1, post v Y1 → G E (p, l, e, R, s, m, args, below, meth, c, A, Q) mL (rep Y ic Y1) (k + mc) (n + ms) lv (v.toList ++ rest) (pc + 3)) : W p l e R s m args below meth c H locs k n Q (F0 m pc ls st) := by
  intro T0 hT0 X0
  obtain ⟨v, st₀, t, T', L, h0, X', hL, e1, e2, ⟨⟨v', Y1, hv, hp, hP1, hK1, hD1⟩, hz, hk⟩, stp⟩ := hr T0 hT0 X0
  cases hv
  rw [h0] at hz hk
  have hF := freeY hD hS hS0 hic hn
  obtain ⟨j1, j2⟩ := joinY (H1 := T'.heap) hP hD hic hn (fun q h1 h2 => by rw [e1]; exact hk q h1 h2) hF (by rw [e1]; exact hP1) hD1
  obtain ⟨t2, a1, b1⟩ := kk v Y1 hp T'.heap (locs ++ L) ls j1 j2 ⟨Nat.le_trans hS.1 (by rw [e1]; exact hz), fun q h1 h2 => by rw [e1, hk q (Nat.lt_of_lt_of_le h1 hS.1) (fun z => h2 (hF q z))]; exact hS.2.1 q h1 h2, fun q hq => by
      rcases List.mem_append.mp hq with h | h
      · exact hS.2.2 q h
      · exact hF _ (hfree _ (hL q h))⟩ hl T' rfl X'
  exact ⟨t2, stp t2 a1, b1⟩
theorem g_pre {s : State} {A : Nat → Prop} {Yc : List va_W} {ic : List Nat} (hK : KE E s) (hSE : SE E A s s.heap) (hNE : NE E s) (hS0 : ∀ q, s.heap.size ≤ q → A q) (hic : ic.map (fun i => Y[i]?) = Yc.map some) (hn : ic.Nodup) {H : Heap} {locs : List Loc} (hP : va_P E.1 vwCl Y.flatten H) (hD : va_D A Y.flatten) (hS : va_S A s.heap H locs) (av : List Value) :
    FrameBlind (va_Pc av (fun U => U.heap.size = H.size ∧ va_P E.1 vwCl Yc.flatten U.heap ∧ KE E U ∧ va_D (fun _ => True) Yc.flatten ∧ SE E (va_A Yc.flatten H.size) U U.heap ∧ NE E U)) ∧ ∀ U : State, U.heap = H → s.WarmedH U.vm → va_Pc av (fun U => U.heap.size = H.size ∧ va_P E.1 vwCl Yc.flatten U.heap ∧ KE E U ∧ va_D (fun _ => True) Yc.flatten ∧ SE E (va_A Yc.flatten H.size) U U.heap ∧ NE E U) av.toArray U := by
  refine ⟨fun a U g mk q => ?_, fun U hU hW => ?_⟩
  · obtain ⟨q0, q1, q2, q3, q4, q5, q6⟩ := q
    exact ⟨q0, q1, q2, KE.moved (u := U) (U := U.calling g mk a) (Vm.Alike.refl U.vm) q3, q4, SE.moved (u := U) (U := U.calling g mk a) (Vm.Alike.refl U.vm) q5, NE.same (u := U) (U := U.calling g mk a) rfl q6⟩
  · have hF := freeY hD hS hS0 hic hn
    refine ⟨rfl, by rw [hU], by rw [hU]; exact subP hP hic hn, hK.moved hW.alike, (subD hD hic hn).weaken (fun _ _ _ _ => trivial), ?_, hNE.warm hW⟩
    rw [hU]
    exact ((hSE.moved (U := U) hW.alike).kept (fun q h1 h2 => hS.2.1 q h1 h2)).narrow hF
theorem g_callV {y : MethodName} {cd : ByteArray} {m9 idx a : Nat} {ret : Option FieldType} {rmy : Room} {As : List Value} {Yc : List va_W} {post : Option Value → List va_W → Prop} (C : Ct E X cc own rm mL) (F : CF y cd m9 ret As.length) (hM : ∀ l, MG l y cd m9 ret rmy E (.ref a :: As) Yc post) (hl : Cond.methodLink own idx y ∈ tb)
    (ic : List Nat) (hic : ic.map (fun i => Y[i]?) = Yc.map some) (hn : ic.Nodup) (hrc : ∃ (ci N : Nat) (T : u_T) (fs : List Value), (a, .inr (ci, fs)) ∈ Y.flatten ∧ vwCl[ci]? = some (y.cls, T, N)) (hst : st = As.reverse ++ .ref a :: rest) (hw : (rest.map fun v => v.category).sum ≤ 8)
    (hR : rmy.frames + 1 ≤ rm.frames ∧ 8 + (m9 + 11) + rmy.locals ≤ rm.locals ∧ k + rmy.cells ≤ rm.cells ∧ n + rmy.slots ≤ rm.slots) (hd : decode cc pc = .ok (.invokevirtual idx, 3))
    (kk : ∀ v Y1, post v Y1 → G E X mL (rep Y ic Y1) (k + rmy.cells) (n + rmy.slots) lv (v.toList ++ rest) (pc + 3)) : G E X mL Y k n lv st pc := by
  obtain ⟨p, l, e, R, s, m, args, below, meth, c, A, Q⟩ := X
  obtain ⟨hx, hb, hml, hown, hts, hK, hSE, hNE, hS0, hRm⟩ := C
  obtain ⟨f1, f2, f3, f4, f5⟩ := F
  subst hRm
  intro H locs ls hP hD hS hlv
  have hpre := g_pre (Yc := Yc) hK hSE hNE hS0 hic hn hP hD hS (.ref a :: As)
  obtain ⟨ci, N, T, fs, hm, hcl⟩ := hrc
  obtain ⟨q0, hq0⟩ := List.mem_iff_getElem?.mp hm
  refine g_run hS0 hic hn hP hD hS hlv (fun q h => h) (va_runV (As := As) (rest := rest) ⟨hx, hb, hml, hown, hts⟩ (hM l H.size) (cwV (own := own) (index := idx) As.length hts (goodTb ?_) rfl rfl rfl f5 ⟨hR.1, hR.2.1⟩) ⟨hpre.1, va_recv hK hP hcl hq0, hpre.2⟩ rfl rfl hlv.1 hst (lv_room hw) hd hR.2.2) kk
  intro w hw9
  simp only [wsV, List.cons_append, List.nil_append, List.mem_cons] at hw9
  rcases hw9 with e1 | e1 | e1 | e1 | e1 | e1
  · rw [e1]; exact hl
  · rw [e1]; exact f1
  · rw [e1]; exact f2
  · rw [e1]; exact f3
  · rw [e1]; exact f4
  · exact e1
theorem g_callS {y : MethodName} {cd : ByteArray} {m9 idx : Nat} {ret : Option FieldType} {rmy : Room} {As : List Value} {Yc : List va_W} {post : Option Value → List va_W → Prop} (C : Ct E X cc own rm mL) (F : CFs y cd m9 ret As.length) (hM : ∀ l, MG l y cd m9 ret rmy E As Yc post) (hl : Cond.methodLink own idx y ∈ tb)
    (ic : List Nat) (hic : ic.map (fun i => Y[i]?) = Yc.map some) (hn : ic.Nodup) (hst : st = As.reverse ++ rest) (hw : (rest.map fun v => v.category).sum ≤ 8)
    (hR : rmy.frames + 1 ≤ rm.frames ∧ 8 + (m9 + 11) + rmy.locals ≤ rm.locals ∧ k + rmy.cells ≤ rm.cells ∧ n + rmy.slots ≤ rm.slots) (hd : decode cc pc = .ok (.invokestatic idx, 3))
    (kk : ∀ v Y1, post v Y1 → G E X mL (rep Y ic Y1) (k + rmy.cells) (n + rmy.slots) lv (v.toList ++ rest) (pc + 3)) : G E X mL Y k n lv st pc := by
  obtain ⟨p, l, e, R, s, m, args, below, meth, c, A, Q⟩ := X
  obtain ⟨hx, hb, hml, hown, hts, hK, hSE, hNE, hS0, hRm⟩ := C
  obtain ⟨f1, f3, f4, f5⟩ := F
  subst hRm
  intro H locs ls hP hD hS hlv
  have hpre := g_pre (Yc := Yc) hK hSE hNE hS0 hic hn hP hD hS As
  exact g_run hS0 hic hn hP hD hS hlv (fun q h => h) (va_runS (As := As) (rest := rest) ⟨hx, hb, hml, hown, hts⟩ (hM l H.size) ⟨callB_of (own := own) (index := idx) As.length hts (goodCall f4) rfl rfl rfl (hts _ f3) (hts _ hl) f5 ⟨hR.1, hR.2.1⟩, hts _ f1⟩ hpre rfl rfl hlv.1 hst (lv_room hw) hd hR.2.2) kk
theorem g_callI {y : MethodName} {cd : ByteArray} {m9 idx a : Nat} {rmy : Room} {As : List Value} {Yc : List va_W} {post : Option Value → List va_W → Prop} (C : Ct E X cc own rm mL) (F : CFi y cd m9 As.length) (hM : ∀ l, MG l y cd m9 none rmy E (.ref a :: As) Yc post) (hl : Cond.methodLink own idx y ∈ tb)
    (ic : List Nat) (hic : ic.map (fun i => Y[i]?) = Yc.map some) (hn : ic.Nodup) (hst : st = As.reverse ++ .ref a :: rest) (hw : (rest.map fun v => v.category).sum ≤ 8)
    (hR : rmy.frames + 1 ≤ rm.frames ∧ 8 + (m9 + 11) + rmy.locals ≤ rm.locals ∧ k + rmy.cells ≤ rm.cells ∧ n + rmy.slots ≤ rm.slots) (hd : decode cc pc = .ok (.invokespecial idx, 3))
    (kk : ∀ v Y1, post v Y1 → G E X mL (rep Y ic Y1) (k + rmy.cells) (n + rmy.slots) lv (v.toList ++ rest) (pc + 3)) : G E X mL Y k n lv st pc := by
  obtain ⟨p, l, e, R, s, m, args, below, meth, c, A, Q⟩ := X
  obtain ⟨hx, hb, hml, hown, hts, hK, hSE, hNE, hS0, hRm⟩ := C
  obtain ⟨f1, f3, f4, f6, f5⟩ := F
  subst hRm
  intro H locs ls hP hD hS hlv
  have hpre := g_pre (Yc := Yc) hK hSE hNE hS0 hic hn hP hD hS (.ref a :: As)
  exact g_run hS0 hic hn hP hD hS hlv (fun q h => h) (va_runI (As := As) (rest := rest) ⟨hx, hb, hml, hown, hts⟩ (hM l H.size) (cwI (own := own) (index := idx) As.length hts (goodCall f4) rfl rfl rfl (hts _ f3) (hts _ hl) (hts _ f1) f6 f5 ⟨hR.1, hR.2.1⟩) hpre rfl rfl hlv.1 hst (lv_room hw) hd hR.2.2) kk
theorem g_callIN {y : MethodName} {cd : ByteArray} {m9 idx a : Nat} {host : String} {rmy : Room} {As : List Value} {Yc : List va_W} {post : Option Value → List va_W → Prop} (C : Ct E X cc own rm mL) (F : CFi y cd m9 As.length) (hM : ∀ l, MG l y cd m9 none rmy E (.ref a :: As) Yc post) (hl : ∀ U, NE E U → va_Nw (.methodLinkNest own idx y host) U)
    (ic : List Nat) (hic : ic.map (fun i => Y[i]?) = Yc.map some) (hn : ic.Nodup) (hst : st = As.reverse ++ .ref a :: rest) (hw : (rest.map fun v => v.category).sum ≤ 8)
    (hR : rmy.frames + 1 ≤ rm.frames ∧ 8 + (m9 + 11) + rmy.locals ≤ rm.locals ∧ k + rmy.cells ≤ rm.cells ∧ n + rmy.slots ≤ rm.slots) (hd : decode cc pc = .ok (.invokespecial idx, 3))
    (kk : ∀ v Y1, post v Y1 → G E X mL (rep Y ic Y1) (k + rmy.cells) (n + rmy.slots) lv (v.toList ++ rest) (pc + 3)) : G E X mL Y k n lv st pc := by
  obtain ⟨p, l, e, R, s, m, args, below, meth, c, A, Q⟩ := X
  obtain ⟨hx, hb, hml, hown, hts, hK, hSE, hNE, hS0, hRm⟩ := C
  obtain ⟨f1, f3, f4, f6, f5⟩ := F
  subst hRm
  intro H locs ls hP hD hS hlv
  have hpre := g_pre (Yc := Yc) hK hSE hNE hS0 hic hn hP hD hS (.ref a :: As)
  exact g_run hS0 hic hn hP hD hS hlv (fun q h => h) (va_runIN (As := As) (rest := rest) (host := host) ⟨hx, hb, hml, hown, hts⟩ (hM l H.size) ⟨va_cnB (own := own) (index := idx) As.length hts (goodCall f4) rfl rfl rfl (hl s hNE) (hts _ f3) f5 ⟨hR.1, hR.2.1⟩, f6, hts _ f1⟩ hpre rfl rfl hlv.1 hst (lv_room hw) hd hR.2.2) kk
theorem g_objInit {a idx : Nat} (C : Ct E X cc own rm mL) (hl : Cond.methodLink own idx Lib.objectInit ∈ tb) (hi : Cond.instanceMethod Lib.objectInit ∈ tb) (hc : Cond.code Lib.objectInit ⟨#[0xb1]⟩ 1 none ∈ tb) (hf : 1 ≤ rm.frames) (hw : (rest.map fun v => v.category).sum + 12 ≤ rm.locals) (hd : decode cc pc = .ok (.invokespecial idx, 3))
    (kk : G E X mL Y k n lv rest (pc + 3)) : G E X mL Y k n lv (.ref a :: rest) pc := by
  obtain ⟨p, l, e, R, s, m, args, below, meth, c, A, Q⟩ := X
  obtain ⟨hx, hb, hml, hown, hts, hK, hSE, hNE, hS0, hRm⟩ := C
  subst hRm
  intro H locs ls hP hD hS hlv
  refine W.objInit hx hb hown (hts _ hl) (hts _ hi) (hts _ hc) rfl (by rw [hml]; exact hlv.1) rfl hd hf (by show 2 * 0 + _ + 12 ≤ _; omega) ?_
  exact kk H locs ls hP hD hS hlv
theorem g_widen {k2 n2 : Nat} (h1 : k ≤ k2) (h2 : n ≤ n2) (kk : G E X mL Y k2 n2 lv st pc) : G E X mL Y k n lv st pc := by
  obtain ⟨p, l, e, R, s, m, args, below, meth, c, A, Q⟩ := X
  intro H locs ls hP hD hS hlv
  exact W.widen h1 h2 (kk H locs ls hP hD hS hlv)
/-- the same cells, cut otherwise -/
theorem g_cut {Y2 : List va_W} (h : Y.flatten.Perm Y2.flatten) (kk : G E X mL Y2 k n lv st pc) : G E X mL Y k n lv st pc := by
  obtain ⟨p, l, e, R, s, m, args, below, meth, c, A, Q⟩ := X
  intro H locs ls hP hD hS hlv
  exact kk H locs ls (P_perm h hP) (D_perm h hD) hS hlv
/-- fewer locals -/
theorem g_sub {lv2 : List (Nat × Value)} (ks : List Nat) (h : lv_pick lv ks = lv2) (kk : G E X mL Y k n lv2 st pc) : G E X mL Y k n lv st pc := by
  obtain ⟨p, l, e, R, s, m, args, below, meth, c, A, Q⟩ := X
  intro H locs ls hP hD hS hlv
  exact kk H locs ls hP hD hS (lv_sub hlv ks h)

theorem g_iconst {z : Int} {v : Int32} (C : Ct E X cc own rm mL) (hd : decode cc pc = .ok (.iconst z, 1)) (hv : Int32.ofInt z = v) (kk : G E X mL Y k n lv (.int v :: rest) (pc + 1)) : G E X mL Y k n lv (rest) pc := by
  obtain ⟨p, l, e, R, s, m, args, below, meth, c, A, Q⟩ := X
  obtain ⟨hx, hb, hml, hown, hts, hK, hSE, hNE, hS0, hRm⟩ := C
  intro H locs ls hP hD hS hlv
  exact lv_iconst hx hb hd hv (kk H locs ls hP hD hS hlv)
theorem g_bipush {z : Int} {v : Int32} (C : Ct E X cc own rm mL) (hd : decode cc pc = .ok (.bipush z, 2)) (hv : (Int8.ofInt z).toInt32 = v) (kk : G E X mL Y k n lv (.int v :: rest) (pc + 2)) : G E X mL Y k n lv (rest) pc := by
  obtain ⟨p, l, e, R, s, m, args, below, meth, c, A, Q⟩ := X
  obtain ⟨hx, hb, hml, hown, hts, hK, hSE, hNE, hS0, hRm⟩ := C
  intro H locs ls hP hD hS hlv
  exact lv_bipush hx hb hd hv (kk H locs ls hP hD hS hlv)
theorem g_sipush {z : Int} {v : Int32} (C : Ct E X cc own rm mL) (hd : decode cc pc = .ok (.sipush z, 3)) (hv : (Int16.ofInt z).toInt32 = v) (kk : G E X mL Y k n lv (.int v :: rest) (pc + 3)) : G E X mL Y k n lv (rest) pc := by
  obtain ⟨p, l, e, R, s, m, args, below, meth, c, A, Q⟩ := X
  obtain ⟨hx, hb, hml, hown, hts, hK, hSE, hNE, hS0, hRm⟩ := C
  intro H locs ls hP hD hS hlv
  exact lv_sipush hx hb hd hv (kk H locs ls hP hD hS hlv)
theorem g_lconst {z : Fin 2} {v : Int64} (C : Ct E X cc own rm mL) (hd : decode cc pc = .ok (.lconst z, 1)) (hv : Int64.ofNat (z : Nat) = v) (kk : G E X mL Y k n lv (.long v :: rest) (pc + 1)) : G E X mL Y k n lv (rest) pc := by
  obtain ⟨p, l, e, R, s, m, args, below, meth, c, A, Q⟩ := X
  obtain ⟨hx, hb, hml, hown, hts, hK, hSE, hNE, hS0, hRm⟩ := C
  intro H locs ls hP hD hS hlv
  exact lv_lconst hx hb hd hv (kk H locs ls hP hD hS hlv)
theorem g_iload_n {j : Fin 4} {i : Nat} {x : Int32} (C : Ct E X cc own rm mL) (hd : decode cc pc = .ok (.iload_n j, 1)) (hi : (j : Nat) = i) (q : Nat) (hq : lv[q]? = some (i, .int x)) (kk : G E X mL Y k n lv (.int x :: rest) (pc + 1)) : G E X mL Y k n lv rest pc := by
  obtain ⟨p, l, e, R, s, m, args, below, meth, c, A, Q⟩ := X
  obtain ⟨hx, hb, hml, hown, hts, hK, hSE, hNE, hS0, hRm⟩ := C
  intro H locs ls hP hD hS hlv
  exact lv_iload_n hx hb hd hi (lv_at hlv q hq) (kk H locs ls hP hD hS hlv)
theorem g_iload {i : Nat} {x : Int32} (C : Ct E X cc own rm mL) (hd : decode cc pc = .ok (.iload i, 2)) (q : Nat) (hq : lv[q]? = some (i, .int x)) (kk : G E X mL Y k n lv (.int x :: rest) (pc + 2)) : G E X mL Y k n lv rest pc := by
  obtain ⟨p, l, e, R, s, m, args, below, meth, c, A, Q⟩ := X
  obtain ⟨hx, hb, hml, hown, hts, hK, hSE, hNE, hS0, hRm⟩ := C
  intro H locs ls hP hD hS hlv
  exact lv_iload hx hb hd (lv_at hlv q hq) (kk H locs ls hP hD hS hlv)
theorem g_lload_n {j : Fin 4} {i : Nat} {x : Int64} (C : Ct E X cc own rm mL) (hd : decode cc pc = .ok (.lload_n j, 1)) (hi : (j : Nat) = i) (q : Nat) (hq : lv[q]? = some (i, .long x)) (kk : G E X mL Y k n lv (.long x :: rest) (pc + 1)) : G E X mL Y k n lv rest pc := by
  obtain ⟨p, l, e, R, s, m, args, below, meth, c, A, Q⟩ := X
  obtain ⟨hx, hb, hml, hown, hts, hK, hSE, hNE, hS0, hRm⟩ := C
  intro H locs ls hP hD hS hlv
  exact lv_lload_n hx hb hd hi (lv_at hlv q hq) (kk H locs ls hP hD hS hlv)
theorem g_lload {i : Nat} {x : Int64} (C : Ct E X cc own rm mL) (hd : decode cc pc = .ok (.lload i, 2)) (q : Nat) (hq : lv[q]? = some (i, .long x)) (kk : G E X mL Y k n lv (.long x :: rest) (pc + 2)) : G E X mL Y k n lv rest pc := by
  obtain ⟨p, l, e, R, s, m, args, below, meth, c, A, Q⟩ := X
  obtain ⟨hx, hb, hml, hown, hts, hK, hSE, hNE, hS0, hRm⟩ := C
  intro H locs ls hP hD hS hlv
  exact lv_lload hx hb hd (lv_at hlv q hq) (kk H locs ls hP hD hS hlv)
theorem g_aload_n {j : Fin 4} {i : Nat} {x : Nat} (C : Ct E X cc own rm mL) (hd : decode cc pc = .ok (.aload_n j, 1)) (hi : (j : Nat) = i) (q : Nat) (hq : lv[q]? = some (i, .ref x)) (kk : G E X mL Y k n lv (.ref x :: rest) (pc + 1)) : G E X mL Y k n lv rest pc := by
  obtain ⟨p, l, e, R, s, m, args, below, meth, c, A, Q⟩ := X
  obtain ⟨hx, hb, hml, hown, hts, hK, hSE, hNE, hS0, hRm⟩ := C
  intro H locs ls hP hD hS hlv
  exact lv_aload_n hx hb hd hi (lv_at hlv q hq) (kk H locs ls hP hD hS hlv)
theorem g_aload {i : Nat} {x : Nat} (C : Ct E X cc own rm mL) (hd : decode cc pc = .ok (.aload i, 2)) (q : Nat) (hq : lv[q]? = some (i, .ref x)) (kk : G E X mL Y k n lv (.ref x :: rest) (pc + 2)) : G E X mL Y k n lv rest pc := by
  obtain ⟨p, l, e, R, s, m, args, below, meth, c, A, Q⟩ := X
  obtain ⟨hx, hb, hml, hown, hts, hK, hSE, hNE, hS0, hRm⟩ := C
  intro H locs ls hP hD hS hlv
  exact lv_aload hx hb hd (lv_at hlv q hq) (kk H locs ls hP hD hS hlv)
theorem g_istore_n {j : Fin 4} {i : Nat} {x : Int32} {lv2 : List (Nat × Value)} (C : Ct E X cc own rm mL) (hd : decode cc pc = .ok (.istore_n j, 1)) (hi : (j : Nat) = i) (hn : i < mL) (hl : (i, Value.int x) :: lv.filter (fun q => !(q.1 == i) && !(q.1 + 1 == i && q.2.category == 2)) = lv2) (kk : G E X mL Y k n lv2 rest (pc + 1)) : G E X mL Y k n lv (Value.int x :: rest) pc := by
  obtain ⟨p, l, e, R, s, m, args, below, meth, c, A, Q⟩ := X
  obtain ⟨hx, hb, hml, hown, hts, hK, hSE, hNE, hS0, hRm⟩ := C
  intro H locs ls hP hD hS hlv
  exact lv_istore_n hx hb hd hi hlv hn hl (fun ls hlv => kk H locs ls hP hD hS hlv)
theorem g_istore {i : Nat} {x : Int32} {lv2 : List (Nat × Value)} (C : Ct E X cc own rm mL) (hd : decode cc pc = .ok (.istore i, 2)) (hn : i < mL) (hl : (i, Value.int x) :: lv.filter (fun q => !(q.1 == i) && !(q.1 + 1 == i && q.2.category == 2)) = lv2) (kk : G E X mL Y k n lv2 rest (pc + 2)) : G E X mL Y k n lv (Value.int x :: rest) pc := by
  obtain ⟨p, l, e, R, s, m, args, below, meth, c, A, Q⟩ := X
  obtain ⟨hx, hb, hml, hown, hts, hK, hSE, hNE, hS0, hRm⟩ := C
  intro H locs ls hP hD hS hlv
  exact lv_istore hx hb hd hlv hn hl (fun ls hlv => kk H locs ls hP hD hS hlv)
theorem g_lstore_n {j : Fin 4} {i : Nat} {x : Int64} {lv2 : List (Nat × Value)} (C : Ct E X cc own rm mL) (hd : decode cc pc = .ok (.lstore_n j, 1)) (hi : (j : Nat) = i) (hn : i + 1 < mL) (hl : (i, Value.long x) :: lv.filter (fun q => !(q.1 == i) && (!(q.1 == i + 1) && !(q.1 + 1 == i && q.2.category == 2))) = lv2) (kk : G E X mL Y k n lv2 rest (pc + 1)) : G E X mL Y k n lv (Value.long x :: rest) pc := by
  obtain ⟨p, l, e, R, s, m, args, below, meth, c, A, Q⟩ := X
  obtain ⟨hx, hb, hml, hown, hts, hK, hSE, hNE, hS0, hRm⟩ := C
  intro H locs ls hP hD hS hlv
  exact lv_lstore_n hx hb hd hi hlv hn hl (fun ls hlv => kk H locs ls hP hD hS hlv)
theorem g_lstore {i : Nat} {x : Int64} {lv2 : List (Nat × Value)} (C : Ct E X cc own rm mL) (hd : decode cc pc = .ok (.lstore i, 2)) (hn : i + 1 < mL) (hl : (i, Value.long x) :: lv.filter (fun q => !(q.1 == i) && (!(q.1 == i + 1) && !(q.1 + 1 == i && q.2.category == 2))) = lv2) (kk : G E X mL Y k n lv2 rest (pc + 2)) : G E X mL Y k n lv (Value.long x :: rest) pc := by
  obtain ⟨p, l, e, R, s, m, args, below, meth, c, A, Q⟩ := X
  obtain ⟨hx, hb, hml, hown, hts, hK, hSE, hNE, hS0, hRm⟩ := C
  intro H locs ls hP hD hS hlv
  exact lv_lstore hx hb hd hlv hn hl (fun ls hlv => kk H locs ls hP hD hS hlv)
theorem g_astore_n {j : Fin 4} {i : Nat} {x : Nat} {lv2 : List (Nat × Value)} (C : Ct E X cc own rm mL) (hd : decode cc pc = .ok (.astore_n j, 1)) (hi : (j : Nat) = i) (hn : i < mL) (hl : (i, Value.ref x) :: lv.filter (fun q => !(q.1 == i) && !(q.1 + 1 == i && q.2.category == 2)) = lv2) (kk : G E X mL Y k n lv2 rest (pc + 1)) : G E X mL Y k n lv (Value.ref x :: rest) pc := by
  obtain ⟨p, l, e, R, s, m, args, below, meth, c, A, Q⟩ := X
  obtain ⟨hx, hb, hml, hown, hts, hK, hSE, hNE, hS0, hRm⟩ := C
  intro H locs ls hP hD hS hlv
  exact lv_astore_n hx hb hd hi hlv hn hl (fun ls hlv => kk H locs ls hP hD hS hlv)
theorem g_astore {i : Nat} {x : Nat} {lv2 : List (Nat × Value)} (C : Ct E X cc own rm mL) (hd : decode cc pc = .ok (.astore i, 2)) (hn : i < mL) (hl : (i, Value.ref x) :: lv.filter (fun q => !(q.1 == i) && !(q.1 + 1 == i && q.2.category == 2)) = lv2) (kk : G E X mL Y k n lv2 rest (pc + 2)) : G E X mL Y k n lv (Value.ref x :: rest) pc := by
  obtain ⟨p, l, e, R, s, m, args, below, meth, c, A, Q⟩ := X
  obtain ⟨hx, hb, hml, hown, hts, hK, hSE, hNE, hS0, hRm⟩ := C
  intro H locs ls hP hD hS hlv
  exact lv_astore hx hb hd hlv hn hl (fun ls hlv => kk H locs ls hP hD hS hlv)
theorem g_iinc {i : Nat} {z : Int} {x v : Int32} {lv2 : List (Nat × Value)} (C : Ct E X cc own rm mL) (hd : decode cc pc = .ok (.iinc i z, 3)) (q : Nat) (hq : lv[q]? = some (i, .int x)) (hv : x + Int32.ofInt z = v) (hn : i < mL) (hl : (i, Value.int v) :: lv.filter (fun q => !(q.1 == i) && !(q.1 + 1 == i && q.2.category == 2)) = lv2) (kk : G E X mL Y k n lv2 rest (pc + 3)) : G E X mL Y k n lv rest pc := by
  obtain ⟨p, l, e, R, s, m, args, below, meth, c, A, Q⟩ := X
  obtain ⟨hx, hb, hml, hown, hts, hK, hSE, hNE, hS0, hRm⟩ := C
  intro H locs ls hP hD hS hlv
  exact lv_iinc hx hb hd hlv hq hv hn hl (fun ls hlv => kk H locs ls hP hD hS hlv)
theorem g_iadd {x y : Int32} (C : Ct E X cc own rm mL) (hd : decode cc pc = .ok (.iadd, 1))  (kk : G E X mL Y k n lv (.int (x + y) :: rest) (pc + 1)) : G E X mL Y k n lv (.int y :: .int x :: rest) pc := by
  obtain ⟨p, l, e, R, s, m, args, below, meth, c, A, Q⟩ := X
  obtain ⟨hx, hb, hml, hown, hts, hK, hSE, hNE, hS0, hRm⟩ := C
  intro H locs ls hP hD hS hlv
  exact lv_iadd hx hb hd  (kk H locs ls hP hD hS hlv)
theorem g_isub {x y : Int32} (C : Ct E X cc own rm mL) (hd : decode cc pc = .ok (.isub, 1))  (kk : G E X mL Y k n lv (.int (x - y) :: rest) (pc + 1)) : G E X mL Y k n lv (.int y :: .int x :: rest) pc := by
  obtain ⟨p, l, e, R, s, m, args, below, meth, c, A, Q⟩ := X
  obtain ⟨hx, hb, hml, hown, hts, hK, hSE, hNE, hS0, hRm⟩ := C
  intro H locs ls hP hD hS hlv
  exact lv_isub hx hb hd  (kk H locs ls hP hD hS hlv)
theorem g_imul {x y : Int32} (C : Ct E X cc own rm mL) (hd : decode cc pc = .ok (.imul, 1))  (kk : G E X mL Y k n lv (.int (x * y) :: rest) (pc + 1)) : G E X mL Y k n lv (.int y :: .int x :: rest) pc := by
  obtain ⟨p, l, e, R, s, m, args, below, meth, c, A, Q⟩ := X
  obtain ⟨hx, hb, hml, hown, hts, hK, hSE, hNE, hS0, hRm⟩ := C
  intro H locs ls hP hD hS hlv
  exact lv_imul hx hb hd  (kk H locs ls hP hD hS hlv)
theorem g_iand {x y : Int32} (C : Ct E X cc own rm mL) (hd : decode cc pc = .ok (.iand, 1))  (kk : G E X mL Y k n lv (.int (x &&& y) :: rest) (pc + 1)) : G E X mL Y k n lv (.int y :: .int x :: rest) pc := by
  obtain ⟨p, l, e, R, s, m, args, below, meth, c, A, Q⟩ := X
  obtain ⟨hx, hb, hml, hown, hts, hK, hSE, hNE, hS0, hRm⟩ := C
  intro H locs ls hP hD hS hlv
  exact lv_iand hx hb hd  (kk H locs ls hP hD hS hlv)
theorem g_ior {x y : Int32} (C : Ct E X cc own rm mL) (hd : decode cc pc = .ok (.ior, 1))  (kk : G E X mL Y k n lv (.int (x ||| y) :: rest) (pc + 1)) : G E X mL Y k n lv (.int y :: .int x :: rest) pc := by
  obtain ⟨p, l, e, R, s, m, args, below, meth, c, A, Q⟩ := X
  obtain ⟨hx, hb, hml, hown, hts, hK, hSE, hNE, hS0, hRm⟩ := C
  intro H locs ls hP hD hS hlv
  exact lv_ior hx hb hd  (kk H locs ls hP hD hS hlv)
theorem g_ixor {x y : Int32} (C : Ct E X cc own rm mL) (hd : decode cc pc = .ok (.ixor, 1))  (kk : G E X mL Y k n lv (.int (x ^^^ y) :: rest) (pc + 1)) : G E X mL Y k n lv (.int y :: .int x :: rest) pc := by
  obtain ⟨p, l, e, R, s, m, args, below, meth, c, A, Q⟩ := X
  obtain ⟨hx, hb, hml, hown, hts, hK, hSE, hNE, hS0, hRm⟩ := C
  intro H locs ls hP hD hS hlv
  exact lv_ixor hx hb hd  (kk H locs ls hP hD hS hlv)
theorem g_ishl {x y : Int32} (C : Ct E X cc own rm mL) (hd : decode cc pc = .ok (.ishl, 1))  (kk : G E X mL Y k n lv (.int (x <<< (y &&& 31)) :: rest) (pc + 1)) : G E X mL Y k n lv (.int y :: .int x :: rest) pc := by
  obtain ⟨p, l, e, R, s, m, args, below, meth, c, A, Q⟩ := X
  obtain ⟨hx, hb, hml, hown, hts, hK, hSE, hNE, hS0, hRm⟩ := C
  intro H locs ls hP hD hS hlv
  exact lv_ishl hx hb hd  (kk H locs ls hP hD hS hlv)
theorem g_ishr {x y : Int32} (C : Ct E X cc own rm mL) (hd : decode cc pc = .ok (.ishr, 1))  (kk : G E X mL Y k n lv (.int (x >>> (y &&& 31)) :: rest) (pc + 1)) : G E X mL Y k n lv (.int y :: .int x :: rest) pc := by
  obtain ⟨p, l, e, R, s, m, args, below, meth, c, A, Q⟩ := X
  obtain ⟨hx, hb, hml, hown, hts, hK, hSE, hNE, hS0, hRm⟩ := C
  intro H locs ls hP hD hS hlv
  exact lv_ishr hx hb hd  (kk H locs ls hP hD hS hlv)
theorem g_idiv {x y : Int32} (C : Ct E X cc own rm mL) (hd : decode cc pc = .ok (.idiv, 1)) (hne : ¬ y = 0) (kk : G E X mL Y k n lv (.int (x / y) :: rest) (pc + 1)) : G E X mL Y k n lv (.int y :: .int x :: rest) pc := by
  obtain ⟨p, l, e, R, s, m, args, below, meth, c, A, Q⟩ := X
  obtain ⟨hx, hb, hml, hown, hts, hK, hSE, hNE, hS0, hRm⟩ := C
  intro H locs ls hP hD hS hlv
  exact lv_idiv hx hb hd hne (kk H locs ls hP hD hS hlv)
theorem g_ineg {x : Int32} (C : Ct E X cc own rm mL) (hd : decode cc pc = .ok (.ineg, 1))  (kk : G E X mL Y k n lv (.int (-x) :: rest) (pc + 1)) : G E X mL Y k n lv (.int x :: rest) pc := by
  obtain ⟨p, l, e, R, s, m, args, below, meth, c, A, Q⟩ := X
  obtain ⟨hx, hb, hml, hown, hts, hK, hSE, hNE, hS0, hRm⟩ := C
  intro H locs ls hP hD hS hlv
  exact lv_ineg hx hb hd  (kk H locs ls hP hD hS hlv)
theorem g_irem {x y : Int32} (C : Ct E X cc own rm mL) (hd : decode cc pc = .ok (.irem, 1)) (hne : ¬ y = 0) (kk : G E X mL Y k n lv (.int (x - x / y * y) :: rest) (pc + 1)) : G E X mL Y k n lv (.int y :: .int x :: rest) pc := by
  obtain ⟨p, l, e, R, s, m, args, below, meth, c, A, Q⟩ := X
  obtain ⟨hx, hb, hml, hown, hts, hK, hSE, hNE, hS0, hRm⟩ := C
  intro H locs ls hP hD hS hlv
  exact lv_irem hx hb hd hne (kk H locs ls hP hD hS hlv)
theorem g_ladd {x y : Int64} (C : Ct E X cc own rm mL) (hd : decode cc pc = .ok (.ladd, 1))  (kk : G E X mL Y k n lv (.long (x + y) :: rest) (pc + 1)) : G E X mL Y k n lv (.long y :: .long x :: rest) pc := by
  obtain ⟨p, l, e, R, s, m, args, below, meth, c, A, Q⟩ := X
  obtain ⟨hx, hb, hml, hown, hts, hK, hSE, hNE, hS0, hRm⟩ := C
  intro H locs ls hP hD hS hlv
  exact lv_ladd hx hb hd  (kk H locs ls hP hD hS hlv)
theorem g_lsub {x y : Int64} (C : Ct E X cc own rm mL) (hd : decode cc pc = .ok (.lsub, 1))  (kk : G E X mL Y k n lv (.long (x - y) :: rest) (pc + 1)) : G E X mL Y k n lv (.long y :: .long x :: rest) pc := by
  obtain ⟨p, l, e, R, s, m, args, below, meth, c, A, Q⟩ := X
  obtain ⟨hx, hb, hml, hown, hts, hK, hSE, hNE, hS0, hRm⟩ := C
  intro H locs ls hP hD hS hlv
  exact lv_lsub hx hb hd  (kk H locs ls hP hD hS hlv)
theorem g_land {x y : Int64} (C : Ct E X cc own rm mL) (hd : decode cc pc = .ok (.land, 1))  (kk : G E X mL Y k n lv (.long (x &&& y) :: rest) (pc + 1)) : G E X mL Y k n lv (.long y :: .long x :: rest) pc := by
  obtain ⟨p, l, e, R, s, m, args, below, meth, c, A, Q⟩ := X
  obtain ⟨hx, hb, hml, hown, hts, hK, hSE, hNE, hS0, hRm⟩ := C
  intro H locs ls hP hD hS hlv
  exact lv_land hx hb hd  (kk H locs ls hP hD hS hlv)
theorem g_lor {x y : Int64} (C : Ct E X cc own rm mL) (hd : decode cc pc = .ok (.lor, 1))  (kk : G E X mL Y k n lv (.long (x ||| y) :: rest) (pc + 1)) : G E X mL Y k n lv (.long y :: .long x :: rest) pc := by
  obtain ⟨p, l, e, R, s, m, args, below, meth, c, A, Q⟩ := X
  obtain ⟨hx, hb, hml, hown, hts, hK, hSE, hNE, hS0, hRm⟩ := C
  intro H locs ls hP hD hS hlv
  exact lv_lor hx hb hd  (kk H locs ls hP hD hS hlv)
theorem g_lcmp {x y : Int64} (C : Ct E X cc own rm mL) (hd : decode cc pc = .ok (.lcmp, 1))  (kk : G E X mL Y k n lv (.int (lg_cmp x y) :: rest) (pc + 1)) : G E X mL Y k n lv (.long y :: .long x :: rest) pc := by
  obtain ⟨p, l, e, R, s, m, args, below, meth, c, A, Q⟩ := X
  obtain ⟨hx, hb, hml, hown, hts, hK, hSE, hNE, hS0, hRm⟩ := C
  intro H locs ls hP hD hS hlv
  exact W.lcmp hx hb hd  (kk H locs ls hP hD hS hlv)
theorem g_i2l {x : Int32} (C : Ct E X cc own rm mL) (hd : decode cc pc = .ok (.i2l, 1))  (kk : G E X mL Y k n lv (.long x.toInt64 :: rest) (pc + 1)) : G E X mL Y k n lv (.int x :: rest) pc := by
  obtain ⟨p, l, e, R, s, m, args, below, meth, c, A, Q⟩ := X
  obtain ⟨hx, hb, hml, hown, hts, hK, hSE, hNE, hS0, hRm⟩ := C
  intro H locs ls hP hD hS hlv
  exact lv_i2l hx hb hd rfl (kk H locs ls hP hD hS hlv)
theorem g_l2i {x : Int64} (C : Ct E X cc own rm mL) (hd : decode cc pc = .ok (.l2i, 1))  (kk : G E X mL Y k n lv (.int x.toInt32 :: rest) (pc + 1)) : G E X mL Y k n lv (.long x :: rest) pc := by
  obtain ⟨p, l, e, R, s, m, args, below, meth, c, A, Q⟩ := X
  obtain ⟨hx, hb, hml, hown, hts, hK, hSE, hNE, hS0, hRm⟩ := C
  intro H locs ls hP hD hS hlv
  exact lv_l2i hx hb hd rfl (kk H locs ls hP hD hS hlv)
theorem g_i2c {x : Int32} (C : Ct E X cc own rm mL) (hd : decode cc pc = .ok (.i2c, 1))  (kk : G E X mL Y k n lv (.int (x.toUInt32 % 65536).toInt32 :: rest) (pc + 1)) : G E X mL Y k n lv (.int x :: rest) pc := by
  obtain ⟨p, l, e, R, s, m, args, below, meth, c, A, Q⟩ := X
  obtain ⟨hx, hb, hml, hown, hts, hK, hSE, hNE, hS0, hRm⟩ := C
  intro H locs ls hP hD hS hlv
  exact lv_i2c hx hb hd rfl (kk H locs ls hP hD hS hlv)
theorem g_iushr {x y : Int32} (C : Ct E X cc own rm mL) (hd : decode cc pc = .ok (.iushr, 1))  (kk : G E X mL Y k n lv (.int (x.toUInt32 >>> (y.toUInt32 &&& Int32.toUInt32 31)).toInt32 :: rest) (pc + 1)) : G E X mL Y k n lv (.int y :: .int x :: rest) pc := by
  obtain ⟨p, l, e, R, s, m, args, below, meth, c, A, Q⟩ := X
  obtain ⟨hx, hb, hml, hown, hts, hK, hSE, hNE, hS0, hRm⟩ := C
  intro H locs ls hP hD hS hlv
  exact lv_iushr hx hb hd rfl (kk H locs ls hP hD hS hlv)
theorem g_lushr {x : Int64} {y : Int32} (C : Ct E X cc own rm mL) (hd : decode cc pc = .ok (.lushr, 1))  (kk : G E X mL Y k n lv (.long (x.toUInt64 >>> (y.toInt64.toUInt64 &&& Int64.toUInt64 63)).toInt64 :: rest) (pc + 1)) : G E X mL Y k n lv (.int y :: .long x :: rest) pc := by
  obtain ⟨p, l, e, R, s, m, args, below, meth, c, A, Q⟩ := X
  obtain ⟨hx, hb, hml, hown, hts, hK, hSE, hNE, hS0, hRm⟩ := C
  intro H locs ls hP hD hS hlv
  exact lv_lushr hx hb hd rfl (kk H locs ls hP hD hS hlv)
theorem g_lshl {x : Int64} {y : Int32} (C : Ct E X cc own rm mL) (hd : decode cc pc = .ok (.lshl, 1))  (kk : G E X mL Y k n lv (.long (x <<< (y.toInt64 &&& 63)) :: rest) (pc + 1)) : G E X mL Y k n lv (.int y :: .long x :: rest) pc := by
  obtain ⟨p, l, e, R, s, m, args, below, meth, c, A, Q⟩ := X
  obtain ⟨hx, hb, hml, hown, hts, hK, hSE, hNE, hS0, hRm⟩ := C
  intro H locs ls hP hD hS hlv
  exact lv_lshl hx hb hd rfl (kk H locs ls hP hD hS hlv)
theorem g_lshr {x : Int64} {y : Int32} (C : Ct E X cc own rm mL) (hd : decode cc pc = .ok (.lshr, 1))  (kk : G E X mL Y k n lv (.long (x >>> (y.toInt64 &&& 63)) :: rest) (pc + 1)) : G E X mL Y k n lv (.int y :: .long x :: rest) pc := by
  obtain ⟨p, l, e, R, s, m, args, below, meth, c, A, Q⟩ := X
  obtain ⟨hx, hb, hml, hown, hts, hK, hSE, hNE, hS0, hRm⟩ := C
  intro H locs ls hP hD hS hlv
  exact lv_lshr hx hb hd rfl (kk H locs ls hP hD hS hlv)
theorem g_dup {v : Value} (C : Ct E X cc own rm mL) (hd : decode cc pc = .ok (.dup, 1)) (hv : v.category = 1) (kk : G E X mL Y k n lv (v :: v :: rest) (pc + 1)) : G E X mL Y k n lv (v :: rest) pc := by
  obtain ⟨p, l, e, R, s, m, args, below, meth, c, A, Q⟩ := X
  obtain ⟨hx, hb, hml, hown, hts, hK, hSE, hNE, hS0, hRm⟩ := C
  intro H locs ls hP hD hS hlv
  exact lv_dup hx hb hd hv (kk H locs ls hP hD hS hlv)
theorem g_dup2 {v w : Value} (C : Ct E X cc own rm mL) (hd : decode cc pc = .ok (.dup2, 1)) (hv : v.category = 1) (hw : w.category = 1) (kk : G E X mL Y k n lv (v :: w :: v :: w :: rest) (pc + 1)) : G E X mL Y k n lv (v :: w :: rest) pc := by
  obtain ⟨p, l, e, R, s, m, args, below, meth, c, A, Q⟩ := X
  obtain ⟨hx, hb, hml, hown, hts, hK, hSE, hNE, hS0, hRm⟩ := C
  intro H locs ls hP hD hS hlv
  exact lv_dup2_11 hx hb hd hv hw (kk H locs ls hP hD hS hlv)
theorem g_if_eq {x : Int32} {z : Int} {tgt : Nat} (C : Ct E X cc own rm mL) (hd : decode cc pc = .ok (.ifCond .eq z, 3)) (ht : (pc : Int) + z = (tgt : Int)) (kt : x = 0 → G E X mL Y k n lv rest tgt) (kf : ¬ x = 0 → G E X mL Y k n lv rest (pc + 3)) : G E X mL Y k n lv (.int x :: rest) pc := by
  obtain ⟨p, l, e, R, s, m, args, below, meth, c, A, Q⟩ := X
  obtain ⟨hx, hb, hml, hown, hts, hK, hSE, hNE, hS0, hRm⟩ := C
  intro H locs ls hP hD hS hlv
  exact lv_if_eq hx hb hd ht (fun h => kt h H locs ls hP hD hS hlv) (fun h => kf h H locs ls hP hD hS hlv)
theorem g_icmp_eq {x y : Int32} {z : Int} {tgt : Nat} (C : Ct E X cc own rm mL) (hd : decode cc pc = .ok (.if_icmp .eq z, 3)) (ht : (pc : Int) + z = (tgt : Int)) (kt : x = y → G E X mL Y k n lv rest tgt) (kf : ¬ x = y → G E X mL Y k n lv rest (pc + 3)) : G E X mL Y k n lv (.int y :: .int x :: rest) pc := by
  obtain ⟨p, l, e, R, s, m, args, below, meth, c, A, Q⟩ := X
  obtain ⟨hx, hb, hml, hown, hts, hK, hSE, hNE, hS0, hRm⟩ := C
  intro H locs ls hP hD hS hlv
  exact lv_icmp_eq hx hb hd ht (fun h => kt h H locs ls hP hD hS hlv) (fun h => kf h H locs ls hP hD hS hlv)
theorem g_if_ne {x : Int32} {z : Int} {tgt : Nat} (C : Ct E X cc own rm mL) (hd : decode cc pc = .ok (.ifCond .ne z, 3)) (ht : (pc : Int) + z = (tgt : Int)) (kt : ¬ x = 0 → G E X mL Y k n lv rest tgt) (kf : x = 0 → G E X mL Y k n lv rest (pc + 3)) : G E X mL Y k n lv (.int x :: rest) pc := by
  obtain ⟨p, l, e, R, s, m, args, below, meth, c, A, Q⟩ := X
  obtain ⟨hx, hb, hml, hown, hts, hK, hSE, hNE, hS0, hRm⟩ := C
  intro H locs ls hP hD hS hlv
  exact lv_if_ne hx hb hd ht (fun h => kt h H locs ls hP hD hS hlv) (fun h => kf h H locs ls hP hD hS hlv)
theorem g_icmp_ne {x y : Int32} {z : Int} {tgt : Nat} (C : Ct E X cc own rm mL) (hd : decode cc pc = .ok (.if_icmp .ne z, 3)) (ht : (pc : Int) + z = (tgt : Int)) (kt : ¬ x = y → G E X mL Y k n lv rest tgt) (kf : x = y → G E X mL Y k n lv rest (pc + 3)) : G E X mL Y k n lv (.int y :: .int x :: rest) pc := by
  obtain ⟨p, l, e, R, s, m, args, below, meth, c, A, Q⟩ := X
  obtain ⟨hx, hb, hml, hown, hts, hK, hSE, hNE, hS0, hRm⟩ := C
  intro H locs ls hP hD hS hlv
  exact lv_icmp_ne hx hb hd ht (fun h => kt h H locs ls hP hD hS hlv) (fun h => kf h H locs ls hP hD hS hlv)
theorem g_if_lt {x : Int32} {z : Int} {tgt : Nat} (C : Ct E X cc own rm mL) (hd : decode cc pc = .ok (.ifCond .lt z, 3)) (ht : (pc : Int) + z = (tgt : Int)) (kt : x < 0 → G E X mL Y k n lv rest tgt) (kf : ¬ x < 0 → G E X mL Y k n lv rest (pc + 3)) : G E X mL Y k n lv (.int x :: rest) pc := by
  obtain ⟨p, l, e, R, s, m, args, below, meth, c, A, Q⟩ := X
  obtain ⟨hx, hb, hml, hown, hts, hK, hSE, hNE, hS0, hRm⟩ := C
  intro H locs ls hP hD hS hlv
  exact lv_if_lt hx hb hd ht (fun h => kt h H locs ls hP hD hS hlv) (fun h => kf h H locs ls hP hD hS hlv)
theorem g_icmp_lt {x y : Int32} {z : Int} {tgt : Nat} (C : Ct E X cc own rm mL) (hd : decode cc pc = .ok (.if_icmp .lt z, 3)) (ht : (pc : Int) + z = (tgt : Int)) (kt : x < y → G E X mL Y k n lv rest tgt) (kf : ¬ x < y → G E X mL Y k n lv rest (pc + 3)) : G E X mL Y k n lv (.int y :: .int x :: rest) pc := by
  obtain ⟨p, l, e, R, s, m, args, below, meth, c, A, Q⟩ := X
  obtain ⟨hx, hb, hml, hown, hts, hK, hSE, hNE, hS0, hRm⟩ := C
  intro H locs ls hP hD hS hlv
  exact lv_icmp_lt hx hb hd ht (fun h => kt h H locs ls hP hD hS hlv) (fun h => kf h H locs ls hP hD hS hlv)
theorem g_if_ge {x : Int32} {z : Int} {tgt : Nat} (C : Ct E X cc own rm mL) (hd : decode cc pc = .ok (.ifCond .ge z, 3)) (ht : (pc : Int) + z = (tgt : Int)) (kt : 0 ≤ x → G E X mL Y k n lv rest tgt) (kf : ¬ 0 ≤ x → G E X mL Y k n lv rest (pc + 3)) : G E X mL Y k n lv (.int x :: rest) pc := by
  obtain ⟨p, l, e, R, s, m, args, below, meth, c, A, Q⟩ := X
  obtain ⟨hx, hb, hml, hown, hts, hK, hSE, hNE, hS0, hRm⟩ := C
  intro H locs ls hP hD hS hlv
  exact lv_if_ge hx hb hd ht (fun h => kt h H locs ls hP hD hS hlv) (fun h => kf h H locs ls hP hD hS hlv)
theorem g_icmp_ge {x y : Int32} {z : Int} {tgt : Nat} (C : Ct E X cc own rm mL) (hd : decode cc pc = .ok (.if_icmp .ge z, 3)) (ht : (pc : Int) + z = (tgt : Int)) (kt : y ≤ x → G E X mL Y k n lv rest tgt) (kf : ¬ y ≤ x → G E X mL Y k n lv rest (pc + 3)) : G E X mL Y k n lv (.int y :: .int x :: rest) pc := by
  obtain ⟨p, l, e, R, s, m, args, below, meth, c, A, Q⟩ := X
  obtain ⟨hx, hb, hml, hown, hts, hK, hSE, hNE, hS0, hRm⟩ := C
  intro H locs ls hP hD hS hlv
  exact lv_icmp_ge hx hb hd ht (fun h => kt h H locs ls hP hD hS hlv) (fun h => kf h H locs ls hP hD hS hlv)
theorem g_if_gt {x : Int32} {z : Int} {tgt : Nat} (C : Ct E X cc own rm mL) (hd : decode cc pc = .ok (.ifCond .gt z, 3)) (ht : (pc : Int) + z = (tgt : Int)) (kt : 0 < x → G E X mL Y k n lv rest tgt) (kf : ¬ 0 < x → G E X mL Y k n lv rest (pc + 3)) : G E X mL Y k n lv (.int x :: rest) pc := by
  obtain ⟨p, l, e, R, s, m, args, below, meth, c, A, Q⟩ := X
  obtain ⟨hx, hb, hml, hown, hts, hK, hSE, hNE, hS0, hRm⟩ := C
  intro H locs ls hP hD hS hlv
  exact lv_if_gt hx hb hd ht (fun h => kt h H locs ls hP hD hS hlv) (fun h => kf h H locs ls hP hD hS hlv)
theorem g_icmp_gt {x y : Int32} {z : Int} {tgt : Nat} (C : Ct E X cc own rm mL) (hd : decode cc pc = .ok (.if_icmp .gt z, 3)) (ht : (pc : Int) + z = (tgt : Int)) (kt : y < x → G E X mL Y k n lv rest tgt) (kf : ¬ y < x → G E X mL Y k n lv rest (pc + 3)) : G E X mL Y k n lv (.int y :: .int x :: rest) pc := by
  obtain ⟨p, l, e, R, s, m, args, below, meth, c, A, Q⟩ := X
  obtain ⟨hx, hb, hml, hown, hts, hK, hSE, hNE, hS0, hRm⟩ := C
  intro H locs ls hP hD hS hlv
  exact lv_icmp_gt hx hb hd ht (fun h => kt h H locs ls hP hD hS hlv) (fun h => kf h H locs ls hP hD hS hlv)
theorem g_if_le {x : Int32} {z : Int} {tgt : Nat} (C : Ct E X cc own rm mL) (hd : decode cc pc = .ok (.ifCond .le z, 3)) (ht : (pc : Int) + z = (tgt : Int)) (kt : x ≤ 0 → G E X mL Y k n lv rest tgt) (kf : ¬ x ≤ 0 → G E X mL Y k n lv rest (pc + 3)) : G E X mL Y k n lv (.int x :: rest) pc := by
  obtain ⟨p, l, e, R, s, m, args, below, meth, c, A, Q⟩ := X
  obtain ⟨hx, hb, hml, hown, hts, hK, hSE, hNE, hS0, hRm⟩ := C
  intro H locs ls hP hD hS hlv
  exact lv_if_le hx hb hd ht (fun h => kt h H locs ls hP hD hS hlv) (fun h => kf h H locs ls hP hD hS hlv)
theorem g_icmp_le {x y : Int32} {z : Int} {tgt : Nat} (C : Ct E X cc own rm mL) (hd : decode cc pc = .ok (.if_icmp .le z, 3)) (ht : (pc : Int) + z = (tgt : Int)) (kt : x ≤ y → G E X mL Y k n lv rest tgt) (kf : ¬ x ≤ y → G E X mL Y k n lv rest (pc + 3)) : G E X mL Y k n lv (.int y :: .int x :: rest) pc := by
  obtain ⟨p, l, e, R, s, m, args, below, meth, c, A, Q⟩ := X
  obtain ⟨hx, hb, hml, hown, hts, hK, hSE, hNE, hS0, hRm⟩ := C
  intro H locs ls hP hD hS hlv
  exact lv_icmp_le hx hb hd ht (fun h => kt h H locs ls hP hD hS hlv) (fun h => kf h H locs ls hP hD hS hlv)
theorem g_goto {z : Int} {tgt : Nat} (C : Ct E X cc own rm mL) (hd : decode cc pc = .ok (.goto z, 3)) (ht : (pc : Int) + z = (tgt : Int)) (kk : G E X mL Y k n lv rest tgt) : G E X mL Y k n lv rest pc := by
  obtain ⟨p, l, e, R, s, m, args, below, meth, c, A, Q⟩ := X
  obtain ⟨hx, hb, hml, hown, hts, hK, hSE, hNE, hS0, hRm⟩ := C
  intro H locs ls hP hD hS hlv
  exact lv_goto hx hb hd ht (kk H locs ls hP hD hS hlv)
theorem g_get {ref Cl : String} {T : u_T} {N ci idx a : Nat} {fs : List Value} {v : Value} {g : va_W} (C : Ct E X cc own rm mL) (hin : ∀ w ∈ u_ws Cl T N, w ∈ tb) (i : Nat) (hg : Y[i]? = some g) (hm : (a, .inr (ci, fs)) ∈ g) (hc : vwCl[ci]? = some (Cl, T, N)) (f : Nat) (hf : f < N) (hl : Cond.fieldLink own idx ref (T f).2.1 (T f).2.2.1 ∈ tb) (hsame : (T f).1 = ref) (hv : fs[f]? = some v) (hd : decode cc pc = .ok (.getfield idx, 3)) (kk : G E X mL Y k n lv (v :: rest) (pc + 3)) : G E X mL Y k n lv (.ref a :: rest) pc := by
  obtain ⟨p, l, e, R, s, m, args, below, meth, c, A, Q⟩ := X
  obtain ⟨hx, hb, hml, hown, hts, hK, hSE, hNE, hS0, hRm⟩ := C
  intro H locs ls hP hD hS hlv
  obtain ⟨q0, hq0⟩ := fl_at hg hm
  exact va_get hx hb hts hin hown hK hP q0 hq0 hc f hf (hts _ hl) (fun x h => by rw [← hsame]; exact h) hv hd (kk H locs ls hP hD hS hlv)
theorem g_put {ref Cl : String} {T : u_T} {N ci idx a : Nat} {fs : List Value} {v : Value} {g : va_W} {Y2 : List va_W} {ty : FieldType} {ty0 : Nat → FieldType} (C : Ct E X cc own rm mL) (hin : ∀ w ∈ u_ws Cl T N, w ∈ tb) (hty : ∀ k, k < N → parseFieldDescriptor (T k).2.2.1 = some (ty0 k)) (hnm : ∀ a, a < N → ∀ b, b < N → a ≠ b → (T a).2.1 ≠ (T b).2.1) (i q : Nat) (hg : Y[i]? = some g) (hm : g[q]? = some (a, .inr (ci, fs))) (hc : vwCl[ci]? = some (Cl, T, N)) (f : Nat) (hf : f < N) (hl : Cond.fieldLink own idx ref (T f).2.1 (T f).2.2.1 ∈ tb) (hsame : (T f).1 = ref) (hfin : (T f).2.2.2 = false) (hdd : ty0 f = ty) (hnn : narrow ty v = v) (hfit : fits ty v = true) (hlen : f < fs.length) (hd : decode cc pc = .ok (.putfield idx, 3)) (hY : Y.set i (g.set q (a, .inr (ci, fs.set f v))) = Y2) (kk : G E X mL Y2 k n lv rest (pc + 3)) : G E X mL Y k n lv (v :: .ref a :: rest) pc := by
  obtain ⟨p, l, e, R, s, m, args, below, meth, c, A, Q⟩ := X
  obtain ⟨hx, hb, hml, hown, hts, hK, hSE, hNE, hS0, hRm⟩ := C
  intro H locs ls hP hD hS hlv
  obtain ⟨q0, hq0, hset⟩ := fl_set Y i q g _ hg hm
  refine va_put hx hb hts hin ty0 hty hnm hown hK hP hD hS q0 hq0 hc f hf (hts _ hl) (fun x h => by rw [← hsame]; exact h) hfin (by rw [← hdd]; exact hty f hf) hnn hfit hlen hd (fun H locs hP hD hS => ?_)
  rw [hset, hY] at hP hD
  exact kk H locs ls hP hD hS hlv
theorem g_putF {ref Cl : String} {T : u_T} {N ci idx a : Nat} {fs : List Value} {v : Value} {g : va_W} {Y2 : List va_W} {ty : FieldType} {ty0 : Nat → FieldType} (C : Ct E X cc own rm mL) (I : Ci X) (hin : ∀ w ∈ u_ws Cl T N, w ∈ tb) (hty : ∀ k, k < N → parseFieldDescriptor (T k).2.2.1 = some (ty0 k)) (hnm : ∀ a, a < N → ∀ b, b < N → a ≠ b → (T a).2.1 ≠ (T b).2.1) (i q : Nat) (hg : Y[i]? = some g) (hm : g[q]? = some (a, .inr (ci, fs))) (hc : vwCl[ci]? = some (Cl, T, N)) (f : Nat) (hf : f < N) (hl : Cond.fieldLink own idx ref (T f).2.1 (T f).2.2.1 ∈ tb) (hsame : (T f).1 = ref) (hfin : (T f).2.2.2 = true) (hdecl : (T f).1 = own) (hdd : ty0 f = ty) (hnn : narrow ty v = v) (hfit : fits ty v = true) (hlen : f < fs.length) (hd : decode cc pc = .ok (.putfield idx, 3)) (hY : Y.set i (g.set q (a, .inr (ci, fs.set f v))) = Y2) (kk : G E X mL Y2 k n lv rest (pc + 3)) : G E X mL Y k n lv (v :: .ref a :: rest) pc := by
  obtain ⟨p, l, e, R, s, m, args, below, meth, c, A, Q⟩ := X
  obtain ⟨hx, hb, hml, hown, hts, hK, hSE, hNE, hS0, hRm⟩ := C
  intro H locs ls hP hD hS hlv
  obtain ⟨q0, hq0, hset⟩ := fl_set Y i q g _ hg hm
  refine va_putF hx hb hts hin ty0 hty hnm hown hK hP hD hS q0 hq0 hc f hf (hts _ hl) (fun x h => by rw [← hsame]; exact h) hfin I hdecl (by rw [← hdd]; exact hty f hf) hnn hfit hlen hd (fun H locs hP hD hS => ?_)
  rw [hset, hY] at hP hD
  exact kk H locs ls hP hD hS hlv
theorem g_iald {a N : Nat} {f : Nat → Int32} {z : Int32} {g : va_W} (C : Ct E X cc own rm mL) (i : Nat) (hg : Y[i]? = some g) (hm : (a, .inl (E.2.1.1, N, .inl f)) ∈ g) (hin : vp_in z N) (hd : decode cc pc = .ok (.iaload, 1)) (kk : G E X mL Y k n lv (.int (f z.toNatClampNeg) :: rest) (pc + 1)) : G E X mL Y k n lv (.int z :: .ref a :: rest) pc := by
  obtain ⟨p, l, e, R, s, m, args, below, meth, c, A, Q⟩ := X
  obtain ⟨hx, hb, hml, hown, hts, hK, hSE, hNE, hS0, hRm⟩ := C
  intro H locs ls hP hD hS hlv
  obtain ⟨q0, hq0⟩ := fl_at hg hm
  exact va_iald hx hb hK hP q0 0 hq0 rfl hin hd (kk H locs ls hP hD hS hlv)
theorem g_cald {a N : Nat} {f : Nat → Int32} {z : Int32} {g : va_W} (C : Ct E X cc own rm mL) (i : Nat) (hg : Y[i]? = some g) (hm : (a, .inl (E.2.1.2.1, N, .inl f)) ∈ g) (hin : vp_in z N) (hd : decode cc pc = .ok (.caload, 1)) (kk : G E X mL Y k n lv (.int (f z.toNatClampNeg) :: rest) (pc + 1)) : G E X mL Y k n lv (.int z :: .ref a :: rest) pc := by
  obtain ⟨p, l, e, R, s, m, args, below, meth, c, A, Q⟩ := X
  obtain ⟨hx, hb, hml, hown, hts, hK, hSE, hNE, hS0, hRm⟩ := C
  intro H locs ls hP hD hS hlv
  obtain ⟨q0, hq0⟩ := fl_at hg hm
  exact va_cald hx hb hK hP q0 1 hq0 rfl hin hd (kk H locs ls hP hD hS hlv)
theorem g_zald {a N : Nat} {f : Nat → Int32} {z : Int32} {g : va_W} (C : Ct E X cc own rm mL) (i : Nat) (hg : Y[i]? = some g) (hm : (a, .inl (E.2.1.2.2.1, N, .inl f)) ∈ g) (hin : vp_in z N) (hd : decode cc pc = .ok (.baload, 1)) (kk : G E X mL Y k n lv (.int (f z.toNatClampNeg) :: rest) (pc + 1)) : G E X mL Y k n lv (.int z :: .ref a :: rest) pc := by
  obtain ⟨p, l, e, R, s, m, args, below, meth, c, A, Q⟩ := X
  obtain ⟨hx, hb, hml, hown, hts, hK, hSE, hNE, hS0, hRm⟩ := C
  intro H locs ls hP hD hS hlv
  obtain ⟨q0, hq0⟩ := fl_at hg hm
  exact va_zald hx hb hK hP q0 2 hq0 rfl hin hd (kk H locs ls hP hD hS hlv)
theorem g_iast {a N : Nat} {f : Nat → Int32} {x z : Int32} {g : va_W} {Y2 : List va_W} (C : Ct E X cc own rm mL) (i q : Nat) (hg : Y[i]? = some g) (hm : g[q]? = some (a, .inl (E.2.1.1, N, .inl f))) (hin : vp_in z N) (hd : decode cc pc = .ok (.iastore, 1)) (hY : Y.set i (g.set q (a, .inl (E.2.1.1, N, .inl (upd f z.toNatClampNeg x)))) = Y2) (kk : G E X mL Y2 k n lv rest (pc + 1)) : G E X mL Y k n lv (.int x :: .int z :: .ref a :: rest) pc := by
  obtain ⟨p, l, e, R, s, m, args, below, meth, c, A, Q⟩ := X
  obtain ⟨hx, hb, hml, hown, hts, hK, hSE, hNE, hS0, hRm⟩ := C
  intro H locs ls hP hD hS hlv
  obtain ⟨q0, hq0, hset⟩ := fl_set Y i q g _ hg hm
  refine va_iast hx hb hK hP hD hS q0 0 hq0 rfl hin hd (fun H locs hP hD hS => ?_)
  rw [hset, hY] at hP hD
  exact kk H locs ls hP hD hS hlv
theorem g_cast {a N : Nat} {f : Nat → Int32} {x z : Int32} {g : va_W} {Y2 : List va_W} (C : Ct E X cc own rm mL) (i q : Nat) (hg : Y[i]? = some g) (hm : g[q]? = some (a, .inl (E.2.1.2.1, N, .inl f))) (hin : vp_in z N) (hd : decode cc pc = .ok (.castore, 1)) (hY : Y.set i (g.set q (a, .inl (E.2.1.2.1, N, .inl (upd f z.toNatClampNeg (vp_nar .char x))))) = Y2) (kk : G E X mL Y2 k n lv rest (pc + 1)) : G E X mL Y k n lv (.int x :: .int z :: .ref a :: rest) pc := by
  obtain ⟨p, l, e, R, s, m, args, below, meth, c, A, Q⟩ := X
  obtain ⟨hx, hb, hml, hown, hts, hK, hSE, hNE, hS0, hRm⟩ := C
  intro H locs ls hP hD hS hlv
  obtain ⟨q0, hq0, hset⟩ := fl_set Y i q g _ hg hm
  refine va_cast hx hb hK hP hD hS q0 1 hq0 rfl hin hd (fun H locs hP hD hS => ?_)
  rw [hset, hY] at hP hD
  exact kk H locs ls hP hD hS hlv
theorem g_zast {a N : Nat} {f : Nat → Int32} {x z : Int32} {g : va_W} {Y2 : List va_W} (C : Ct E X cc own rm mL) (i q : Nat) (hg : Y[i]? = some g) (hm : g[q]? = some (a, .inl (E.2.1.2.2.1, N, .inl f))) (hin : vp_in z N) (hd : decode cc pc = .ok (.bastore, 1)) (hY : Y.set i (g.set q (a, .inl (E.2.1.2.2.1, N, .inl (upd f z.toNatClampNeg (vp_nar .boolean x))))) = Y2) (kk : G E X mL Y2 k n lv rest (pc + 1)) : G E X mL Y k n lv (.int x :: .int z :: .ref a :: rest) pc := by
  obtain ⟨p, l, e, R, s, m, args, below, meth, c, A, Q⟩ := X
  obtain ⟨hx, hb, hml, hown, hts, hK, hSE, hNE, hS0, hRm⟩ := C
  intro H locs ls hP hD hS hlv
  obtain ⟨q0, hq0, hset⟩ := fl_set Y i q g _ hg hm
  refine va_zast hx hb hK hP hD hS q0 2 hq0 rfl hin hd (fun H locs hP hD hS => ?_)
  rw [hset, hY] at hP hD
  exact kk H locs ls hP hD hS hlv
theorem g_alen {a N : Nat} {f : Nat → Int32} {g : va_W} (C : Ct E X cc own rm mL) (i : Nat) (hg : Y[i]? = some g) (hm : (a, .inl (E.2.1.2.1, N, .inl f)) ∈ g) (hd : decode cc pc = .ok (.arraylength, 1)) (kk : G E X mL Y k n lv (.int (Int32.ofNat N) :: rest) (pc + 1)) : G E X mL Y k n lv (.ref a :: rest) pc := by
  obtain ⟨p, l, e, R, s, m, args, below, meth, c, A, Q⟩ := X
  obtain ⟨hx, hb, hml, hown, hts, hK, hSE, hNE, hS0, hRm⟩ := C
  intro H locs ls hP hD hS hlv
  obtain ⟨q0, hq0⟩ := fl_at hg hm
  exact va_alen hx hb hK hP q0 1 hq0 rfl rfl hd (kk H locs ls hP hD hS hlv)
theorem g_iret {v : Int32} {post : Option Value → List va_W → Prop} (C : Ct E X cc own rm mL) (K : Cr E X post rm (some .int)) (hd : decode cc pc = .ok (.ireturn, 1)) (h1 : k ≤ rm.cells) (h2 : n ≤ rm.slots) (hp : post (some (.int v)) Y) : G E X mL Y k n lv [.int v] pc := by
  obtain ⟨p, l, e, R, s, m, args, below, meth, c, A, Q⟩ := X
  obtain ⟨hx, hb, hml, hown, hts, hK, hSE, hNE, hS0, hRm⟩ := C
  intro H locs ls hP hD hS hlv
  obtain ⟨rfl, hlk, hr⟩ := K
  refine W.widen h1 h2 ?_
  exact W.iret hx hb hr (fun t ht hW => ⟨⟨_, Y, rfl, hp, by rw [ht]; exact hP, hK.moved hW.alike, hD⟩, hS.F ht⟩) hS.2.2 hd
theorem g_lret {v : Int64} {post : Option Value → List va_W → Prop} (C : Ct E X cc own rm mL) (K : Cr E X post rm (some .long)) (hd : decode cc pc = .ok (.lreturn, 1)) (h1 : k ≤ rm.cells) (h2 : n ≤ rm.slots) (hp : post (some (.long v)) Y) : G E X mL Y k n lv [.long v] pc := by
  obtain ⟨p, l, e, R, s, m, args, below, meth, c, A, Q⟩ := X
  obtain ⟨hx, hb, hml, hown, hts, hK, hSE, hNE, hS0, hRm⟩ := C
  intro H locs ls hP hD hS hlv
  obtain ⟨rfl, hlk, hr⟩ := K
  refine W.widen h1 h2 ?_
  exact W.lret hx hb hr (fun t ht hW => ⟨⟨_, Y, rfl, hp, by rw [ht]; exact hP, hK.moved hW.alike, hD⟩, hS.F ht⟩) hS.2.2 hd
theorem g_zret {v : Int32} {post : Option Value → List va_W → Prop} (C : Ct E X cc own rm mL) (K : Cr E X post rm (some .boolean)) (hz : v = 0 ∨ v = 1) (hd : decode cc pc = .ok (.ireturn, 1)) (h1 : k ≤ rm.cells) (h2 : n ≤ rm.slots) (hp : post (some (.int v)) Y) : G E X mL Y k n lv [.int v] pc := by
  obtain ⟨p, l, e, R, s, m, args, below, meth, c, A, Q⟩ := X
  obtain ⟨hx, hb, hml, hown, hts, hK, hSE, hNE, hS0, hRm⟩ := C
  intro H locs ls hP hD hS hlv
  obtain ⟨rfl, hlk, hr⟩ := K
  refine W.widen h1 h2 ?_
  exact W.zret hx hb hr (by rcases hz with rfl | rfl <;> rfl) (fun t ht hW => ⟨⟨_, Y, rfl, hp, by rw [ht]; exact hP, hK.moved hW.alike, hD⟩, hS.F ht⟩) hS.2.2 hd
theorem g_ret {post : Option Value → List va_W → Prop} (C : Ct E X cc own rm mL) (K : Cr E X post rm none) (hd : decode cc pc = .ok (.return_, 1)) (h1 : k ≤ rm.cells) (h2 : n ≤ rm.slots) (hp : post none Y) : G E X mL Y k n lv [] pc := by
  obtain ⟨p, l, e, R, s, m, args, below, meth, c, A, Q⟩ := X
  obtain ⟨hx, hb, hml, hown, hts, hK, hSE, hNE, hS0, hRm⟩ := C
  intro H locs ls hP hD hS hlv
  obtain ⟨rfl, hlk, hr⟩ := K
  refine W.widen h1 h2 ?_
  exact W.vret hx hb hr (fun t ht hW => ⟨⟨_, Y, rfl, hp, by rw [ht]; exact hP, hK.moved hW.alike, hD⟩, hS.F ht⟩) hS.2.2 hd
theorem g_aret {a : Nat} {rt : FieldType} {post : Option Value → List va_W → Prop} (C : Ct E X cc own rm mL) (K : Cr E X post rm (some rt)) (hrt : (∃ n, rt = .object n) ∨ ∃ t, rt = .array t) (hd : decode cc pc = .ok (.areturn, 1)) (h1 : k ≤ rm.cells) (h2 : n ≤ rm.slots) (hp : post (some (.ref a)) Y) : G E X mL Y k n lv [.ref a] pc := by
  obtain ⟨p, l, e, R, s, m, args, below, meth, c, A, Q⟩ := X
  obtain ⟨hx, hb, hml, hown, hts, hK, hSE, hNE, hS0, hRm⟩ := C
  intro H locs ls hP hD hS hlv
  obtain ⟨rfl, hlk, hr⟩ := K
  refine W.widen h1 h2 ?_
  exact W.aret hx hb hr hrt (Or.inr ⟨_, rfl⟩) (fun t ht hW => ⟨⟨_, Y, rfl, hp, by rw [ht]; exact hP, hK.moved hW.alike, hD⟩, hS.F ht⟩) hS.2.2 hd
theorem g_new {Cl : String} {T : u_T} {N ci idx : Nat} {ty0 : Nat → FieldType} {fs : List Value} (C : Ct E X cc own rm mL) (hin : ∀ w ∈ u_ws Cl T N, w ∈ tb) (hty : ∀ k, k < N → parseFieldDescriptor (T k).2.2.1 = some (ty0 k)) (hcl : Cond.classLink own idx Cl ∈ tb) (hinst : Cond.instantiable Cl N ∈ tb) (hini : Cond.initialized Cl ∈ tb) (hc : vwCl[ci]? = some (Cl, T, N)) (hfs : ∀ j, j < N → defaultValue (ty0 j) = vp_V fs j) (h1 : k + 1 ≤ rm.cells) (h2 : n + N ≤ rm.slots) (hd : decode cc pc = .ok (.new idx, 3)) (kk : ∀ a : Nat, G E X mL (Y ++ [[(a, .inr (ci, fs))]]) (k + 1) (n + N) lv (.ref a :: rest) (pc + 3)) : G E X mL Y k n lv rest pc := by
  obtain ⟨p, l, e, R, s, m, args, below, meth, c, A, Q⟩ := X
  obtain ⟨hx, hb, hml, hown, hts, hK, hSE, hNE, hS0, hRm⟩ := C
  intro H locs ls hP hD hS hlv
  subst hRm
  refine va_new hx hb hts hin ty0 hty hown (hts _ hcl) (hts _ hinst) (hts _ hini) hK hP hD hS hS0 hc hfs h1 h2 hd (fun a H hP hD hS => ?_)
  exact kk a H locs ls (by rw [List.flatten_append]; exact hP) (by rw [List.flatten_append]; exact hD) hS hlv
theorem g_newI {N : Nat} {z : Int32} (C : Ct E X cc own rm mL) (harr : Cond.arrayClass .int ∈ tb) (hz : ¬ z < 0) (hN : z.toNatClampNeg = N) (hby : N * 4 ≤ 536870912) (h1 : k + 1 ≤ rm.cells) (h2 : n + N ≤ rm.slots) (hd : decode cc pc = .ok (.newarray .int, 2)) (kk : ∀ a : Nat, G E X mL (Y ++ [[(a, .inl (E.2.1.1, N, .inl (fun _ => 0)))]]) (k + 1) (n + N) lv (.ref a :: rest) (pc + 2)) : G E X mL Y k n lv (.int z :: rest) pc := by
  obtain ⟨p, l, e, R, s, m, args, below, meth, c, A, Q⟩ := X
  obtain ⟨hx, hb, hml, hown, hts, hK, hSE, hNE, hS0, hRm⟩ := C
  intro H locs ls hP hD hS hlv
  subst hRm
  refine va_newa (atype := .int) (a0 := (N, .inl (fun _ => 0))) hx hb (hts _ harr) rfl hK hP hD hS hS0 (fun _ => rfl) hz hN (Nat.le_trans (Nat.mul_le_mul_left _ (by decide)) hby) h1 h2 hd (fun a cA H hK2 hP hD hS => ?_)
  have e1 := (hK.2 0 _ rfl).2
  have e2 := (hK2.2 4 _ rfl).2
  have e3 : cA = E.2.1.1 := Option.some.inj (Eq.trans (Eq.symm e2) e1)
  subst e3
  exact kk a H locs ls (by rw [List.flatten_append]; exact hP) (by rw [List.flatten_append]; exact hD) hS hlv
theorem g_newC {N : Nat} {z : Int32} (C : Ct E X cc own rm mL) (harr : Cond.arrayClass .char ∈ tb) (hz : ¬ z < 0) (hN : z.toNatClampNeg = N) (hby : N * 4 ≤ 536870912) (h1 : k + 1 ≤ rm.cells) (h2 : n + N ≤ rm.slots) (hd : decode cc pc = .ok (.newarray .char, 2)) (kk : ∀ a : Nat, G E X mL (Y ++ [[(a, .inl (E.2.1.2.1, N, .inl (fun _ => 0)))]]) (k + 1) (n + N) lv (.ref a :: rest) (pc + 2)) : G E X mL Y k n lv (.int z :: rest) pc := by
  obtain ⟨p, l, e, R, s, m, args, below, meth, c, A, Q⟩ := X
  obtain ⟨hx, hb, hml, hown, hts, hK, hSE, hNE, hS0, hRm⟩ := C
  intro H locs ls hP hD hS hlv
  subst hRm
  refine va_newa (atype := .char) (a0 := (N, .inl (fun _ => 0))) hx hb (hts _ harr) rfl hK hP hD hS hS0 (fun _ => rfl) hz hN (Nat.le_trans (Nat.mul_le_mul_left _ (by decide)) hby) h1 h2 hd (fun a cA H hK2 hP hD hS => ?_)
  have e1 := (hK.2 1 _ rfl).2
  have e2 := (hK2.2 4 _ rfl).2
  have e3 : cA = E.2.1.2.1 := Option.some.inj (Eq.trans (Eq.symm e2) e1)
  subst e3
  exact kk a H locs ls (by rw [List.flatten_append]; exact hP) (by rw [List.flatten_append]; exact hD) hS hlv
theorem g_newZ {N : Nat} {z : Int32} (C : Ct E X cc own rm mL) (harr : Cond.arrayClass .boolean ∈ tb) (hz : ¬ z < 0) (hN : z.toNatClampNeg = N) (hby : N * 4 ≤ 536870912) (h1 : k + 1 ≤ rm.cells) (h2 : n + N ≤ rm.slots) (hd : decode cc pc = .ok (.newarray .boolean, 2)) (kk : ∀ a : Nat, G E X mL (Y ++ [[(a, .inl (E.2.1.2.2.1, N, .inl (fun _ => 0)))]]) (k + 1) (n + N) lv (.ref a :: rest) (pc + 2)) : G E X mL Y k n lv (.int z :: rest) pc := by
  obtain ⟨p, l, e, R, s, m, args, below, meth, c, A, Q⟩ := X
  obtain ⟨hx, hb, hml, hown, hts, hK, hSE, hNE, hS0, hRm⟩ := C
  intro H locs ls hP hD hS hlv
  subst hRm
  refine va_newa (atype := .boolean) (a0 := (N, .inl (fun _ => 0))) hx hb (hts _ harr) rfl hK hP hD hS hS0 (fun _ => rfl) hz hN (Nat.le_trans (Nat.mul_le_mul_left _ (by decide)) hby) h1 h2 hd (fun a cA H hK2 hP hD hS => ?_)
  have e1 := (hK.2 2 _ rfl).2
  have e2 := (hK2.2 4 _ rfl).2
  have e3 : cA = E.2.1.2.2.1 := Option.some.inj (Eq.trans (Eq.symm e2) e1)
  subst e3
  exact kk a H locs ls (by rw [List.flatten_append]; exact hP) (by rw [List.flatten_append]; exact hD) hS hlv
theorem g_gets {Cn nm ds ref : String} {idx : Nat} {v : Value} (C : Ct E X cc own rm mL) (hZ : ∀ A U H, SE E A U H → va_Z Cn nm ds v A U H) (hl : Cond.fieldLink own idx ref nm ds ∈ tb) (hsame : Cn = ref) (hd : decode cc pc = .ok (.getstatic idx, 3)) (kk : G E X mL Y k n lv (v :: rest) (pc + 3)) : G E X mL Y k n lv rest pc := by
  obtain ⟨p, l, e, R, s, m, args, below, meth, c, A, Q⟩ := X
  obtain ⟨hx, hb, hml, hown, hts, hK, hSE, hNE, hS0, hRm⟩ := C
  intro H locs ls hP hD hS hlv
  exact va_gets hx hb (hZ _ _ _ hSE) hS hown (hts _ hl) (fun x h => by rw [← hsame]; exact h) hd (kk H locs ls hP hD hS hlv)
theorem g_getsN {Cn nm ds ref host : String} {idx : Nat} {v : Value} (C : Ct E X cc own rm mL) (hZ : ∀ A U H, SE E A U H → va_Z Cn nm ds v A U H) (hl : ∀ U, NE E U → va_Nw (.fieldLinkNest own idx ref nm ds host) U) (hsame : Cn = ref) (hd : decode cc pc = .ok (.getstatic idx, 3)) (kk : G E X mL Y k n lv (v :: rest) (pc + 3)) : G E X mL Y k n lv rest pc := by
  obtain ⟨p, l, e, R, s, m, args, below, meth, c, A, Q⟩ := X
  obtain ⟨hx, hb, hml, hown, hts, hK, hSE, hNE, hS0, hRm⟩ := C
  intro H locs ls hP hD hS hlv
  exact va_getsN hx hb (hZ _ _ _ hSE) hS hown (va_Nw.use rfl (hl _ hNE)) (fun x h => by rw [← hsame]; exact h) hd (kk H locs ls hP hD hS hlv)
theorem g_ti {t N : Nat} {f : Nat → Int32} {z : Int32} (C : Ct E X cc own rm mL) (hT : ∀ A U H, SE E A U H → va_T .int t N (fun j => .int (f j)) A U H) (hin : vp_in z N) (hd : decode cc pc = .ok (.iaload, 1)) (kk : G E X mL Y k n lv (.int (f z.toNatClampNeg) :: rest) (pc + 1)) : G E X mL Y k n lv (.int z :: .ref t :: rest) pc := by
  obtain ⟨p, l, e, R, s, m, args, below, meth, c, A, Q⟩ := X
  obtain ⟨hx, hb, hml, hown, hts, hK, hSE, hNE, hS0, hRm⟩ := C
  intro H locs ls hP hD hS hlv
  exact va_ti hx hb (hT _ _ _ hSE) hS hin rfl hd (kk H locs ls hP hD hS hlv)
theorem g_tb {t N : Nat} {f : Nat → Int32} {z : Int32} (C : Ct E X cc own rm mL) (hT : ∀ A U H, SE E A U H → va_T .byte t N (fun j => .int (f j)) A U H) (hin : vp_in z N) (hd : decode cc pc = .ok (.baload, 1)) (kk : G E X mL Y k n lv (.int (f z.toNatClampNeg) :: rest) (pc + 1)) : G E X mL Y k n lv (.int z :: .ref t :: rest) pc := by
  obtain ⟨p, l, e, R, s, m, args, below, meth, c, A, Q⟩ := X
  obtain ⟨hx, hb, hml, hown, hts, hK, hSE, hNE, hS0, hRm⟩ := C
  intro H locs ls hP hD hS hlv
  exact va_tb hx hb (hT _ _ _ hSE) hS hin rfl hd (kk H locs ls hP hD hS hlv)
theorem g_tlen {t N : Nat} {f : Nat → Int32} (C : Ct E X cc own rm mL) (hT : ∀ A U H, SE E A U H → va_T .byte t N (fun j => .int (f j)) A U H) (hd : decode cc pc = .ok (.arraylength, 1)) (kk : G E X mL Y k n lv (.int (Int32.ofNat N) :: rest) (pc + 1)) : G E X mL Y k n lv (.ref t :: rest) pc := by
  obtain ⟨p, l, e, R, s, m, args, below, meth, c, A, Q⟩ := X
  obtain ⟨hx, hb, hml, hown, hts, hK, hSE, hNE, hS0, hRm⟩ := C
  intro H locs ls hP hD hS hlv
  exact va_tlen hx hb (hT _ _ _ hSE) hS rfl hd (kk H locs ls hP hD hS hlv)
theorem g_skf {o nm ds ref : String} {idx q : Nat} {v : Value} (C : Ct E X cc own rm mL) (hE : ∀ A U H, SE E A U H → va_OF o nm ds v q A U H) (hl : Cond.fieldLink own idx ref nm ds ∈ tb) (hsame : o = ref) (hd : decode cc pc = .ok (.getfield idx, 3)) (kk : G E X mL Y k n lv (v :: rest) (pc + 3)) : G E X mL Y k n lv (.ref q :: rest) pc := by
  obtain ⟨p, l, e, R, s, m, args, below, meth, c, A, Q⟩ := X
  obtain ⟨hx, hb, hml, hown, hts, hK, hSE, hNE, hS0, hRm⟩ := C
  intro H locs ls hP hD hS hlv
  exact vk_getf hx hb (hE _ _ _ hSE) hS hown (hts _ hl) (fun x h => by rw [← hsame]; exact h) hd (kk H locs ls hP hD hS hlv)
theorem g_ldcS {tx : String} {idx q : Nat} (C : Ct E X cc own rm mL) (hZ : ∀ U, NE E U → vk_R own idx tx q U) (hd : decode cc pc = .ok (.ldc idx, 2)) (kk : G E X mL Y k n lv (.ref q :: rest) (pc + 2)) : G E X mL Y k n lv rest pc := by
  obtain ⟨p, l, e, R, s, m, args, below, meth, c, A, Q⟩ := X
  obtain ⟨hx, hb, hml, hown, hts, hK, hSE, hNE, hS0, hRm⟩ := C
  intro H locs ls hP hD hS hlv
  exact va_ldcS hx hb hown (hZ _ hNE) hd (kk H locs ls hP hD hS hlv)
theorem g_ldc {idx : Nat} {v : Int32} (C : Ct E X cc own rm mL) (hl : Cond.constant own idx v ∈ tb) (hd : decode cc pc = .ok (.ldc idx, 2)) (kk : G E X mL Y k n lv (.int v :: rest) (pc + 2)) : G E X mL Y k n lv rest pc := by
  obtain ⟨p, l, e, R, s, m, args, below, meth, c, A, Q⟩ := X
  obtain ⟨hx, hb, hml, hown, hts, hK, hSE, hNE, hS0, hRm⟩ := C
  intro H locs ls hP hD hS hlv
  exact lv_ldc hx hb hown (hts _ hl) hd (kk H locs ls hP hD hS hlv)
theorem g_ldcw {idx : Nat} {v : Int32} (C : Ct E X cc own rm mL) (hl : Cond.constant own idx v ∈ tb) (hd : decode cc pc = .ok (.ldc_w idx, 3)) (kk : G E X mL Y k n lv (.int v :: rest) (pc + 3)) : G E X mL Y k n lv rest pc := by
  obtain ⟨p, l, e, R, s, m, args, below, meth, c, A, Q⟩ := X
  obtain ⟨hx, hb, hml, hown, hts, hK, hSE, hNE, hS0, hRm⟩ := C
  intro H locs ls hP hD hS hlv
  exact lv_ldcw hx hb hown (hts _ hl) hd (kk H locs ls hP hD hS hlv)
theorem g_ldc2 {idx : Nat} {v : Int64} (C : Ct E X cc own rm mL) (hl : Cond.constantLong own idx v ∈ tb) (hd : decode cc pc = .ok (.ldc2_w idx, 3)) (kk : G E X mL Y k n lv (.long v :: rest) (pc + 3)) : G E X mL Y k n lv rest pc := by
  obtain ⟨p, l, e, R, s, m, args, below, meth, c, A, Q⟩ := X
  obtain ⟨hx, hb, hml, hown, hts, hK, hSE, hNE, hS0, hRm⟩ := C
  intro H locs ls hP hD hS hlv
  exact lv_ldc2 hx hb hown (hts _ hl) hd (kk H locs ls hP hD hS hlv)
theorem g_lookup {dflt : Int} {ps : Array (Int × Int)} {len : Nat} {x : Int32} {off : Int} {tgt : Nat} (C : Ct E X cc own rm mL) (hd : decode cc pc = .ok (.lookupswitch dflt ps, len)) (hp : (ps.toList.zip (ps.toList.drop 1)).all (fun (a, next) => a.1 < next.1) = true) (ho : Op.lookupswitch.offset ps.toList dflt x.toInt = off) (ht : (pc : Int) + off = (tgt : Int)) (kk : G E X mL Y k n lv rest tgt) : G E X mL Y k n lv (.int x :: rest) pc := by
  obtain ⟨p, l, e, R, s, m, args, below, meth, c, A, Q⟩ := X
  obtain ⟨hx, hb, hml, hown, hts, hK, hSE, hNE, hS0, hRm⟩ := C
  intro H locs ls hP hD hS hlv
  exact lv_lookup hx hb hd hp ho ht (kk H locs ls hP hD hS hlv)
theorem g_tout {dflt lo hi : Int} {offs : Array Int} {len : Nat} {x : Int32} {tgt : Nat} (C : Ct E X cc own rm mL) (hd : decode cc pc = .ok (.tableswitch dflt lo hi offs, len)) (h : x.toInt < lo ∨ hi < x.toInt) (ht : (pc : Int) + dflt = (tgt : Int)) (kk : G E X mL Y k n lv rest tgt) : G E X mL Y k n lv (.int x :: rest) pc := by
  obtain ⟨p, l, e, R, s, m, args, below, meth, c, A, Q⟩ := X
  obtain ⟨hx, hb, hml, hown, hts, hK, hSE, hNE, hS0, hRm⟩ := C
  intro H locs ls hP hD hS hlv
  exact lv_tableOut hx hb hd h ht (kk H locs ls hP hD hS hlv)
theorem g_tin {dflt lo hi : Int} {offs : Array Int} {len : Nat} {x : Int32} {off : Int} {tgt : Nat} (C : Ct E X cc own rm mL) (hd : decode cc pc = .ok (.tableswitch dflt lo hi offs, len)) (h1 : ¬ x.toInt < lo) (h2 : ¬ hi < x.toInt) (ho : offs[(x.toInt - lo).toNat]? = some off) (ht : (pc : Int) + off = (tgt : Int)) (kk : G E X mL Y k n lv rest tgt) : G E X mL Y k n lv (.int x :: rest) pc := by
  obtain ⟨p, l, e, R, s, m, args, below, meth, c, A, Q⟩ := X
  obtain ⟨hx, hb, hml, hown, hts, hK, hSE, hNE, hS0, hRm⟩ := C
  intro H locs ls hP hD hS hlv
  exact lv_tableIn hx hb hd h1 h2 ho ht (kk H locs ls hP hD hS hlv)
theorem g_aaload {a N : Nat} {f : Nat → Option Nat} {z : Int32} {v : Value} {g : va_W} (C : Ct E X cc own rm mL) (i : Nat) (hg : Y[i]? = some g) (hm : (a, .inl (E.2.1.2.2.2, N, .inr (.inr (.inr (.inr f))))) ∈ g) (hin : vp_in z N) (hv : va_rf (f z.toNatClampNeg) = v) (hd : decode cc pc = .ok (.aaload, 1)) (kk : G E X mL Y k n lv (v :: rest) (pc + 1)) : G E X mL Y k n lv (.int z :: .ref a :: rest) pc := by
  obtain ⟨p, l, e, R, s, m, args, below, meth, c, A, Q⟩ := X
  obtain ⟨hx, hb, hml, hown, hts, hK, hSE, hNE, hS0, hRm⟩ := C
  intro H locs ls hP hD hS hlv
  subst hv
  obtain ⟨q0, hq0⟩ := fl_at hg hm
  exact va_aldq hx hb hK hP q0 3 hq0 rfl hin hd (kk H locs ls hP hD hS hlv)
theorem g_aastore {a N v ci i2 : Nat} {vs : List Value} {f : Nat → Option Nat} {z : Int32} {g g2 : va_W} {Y2 : List va_W} {r : vw_C} (C : Ct E X cc own rm mL) (i q : Nat) (hg : Y[i]? = some g) (hm : g[q]? = some (a, .inl (E.2.1.2.2.2, N, .inr (.inr (.inr (.inr f)))))) (hg2 : Y[i2]? = some g2) (hm2 : (v, .inr (ci, vs)) ∈ g2) (hc : vwCl[ci]? = some r) (hr : r.1 = "SoftStairs$Stairs") (hin : vp_in z N) (hd : decode cc pc = .ok (.aastore, 1)) (hY : Y.set i (g.set q (a, .inl (E.2.1.2.2.2, N, .inr (.inr (.inr (.inr (va_up f z.toNatClampNeg (some v)))))))) = Y2) (kk : G E X mL Y2 k n lv rest (pc + 1)) : G E X mL Y k n lv (.ref v :: .int z :: .ref a :: rest) pc := by
  obtain ⟨p, l, e, R, s, m, args, below, meth, c, A, Q⟩ := X
  obtain ⟨hx, hb, hml, hown, hts, hK, hSE, hNE, hS0, hRm⟩ := C
  intro H locs ls hP hD hS hlv
  obtain ⟨q0, hq0, hset⟩ := fl_set Y i q g _ hg hm
  obtain ⟨q2, hq2⟩ := fl_at hg2 hm2
  refine va_astq hx hb hK hP hD hS q0 3 q2 ci hq0 (by rw [hr]; rfl) hq2 hc hin hd (fun H locs hP hD hS => ?_)
  rw [hset, hY] at hP hD
  exact kk H locs ls hP hD hS hlv
theorem g_newQ {N idx : Nat} {z : Int32} (C : Ct E X cc own rm mL) (hcl : Cond.classLink own idx "SoftStairs$Stairs" ∈ tb) (hz : ¬ z < 0) (hN : z.toNatClampNeg = N) (hby : N * 4 ≤ 536870912) (h1 : k + 1 ≤ rm.cells) (h2 : n + N ≤ rm.slots) (hd : decode cc pc = .ok (.anewarray idx, 3)) (kk : ∀ a : Nat, G E X mL (Y ++ [[(a, .inl (E.2.1.2.2.2, N, .inr (.inr (.inr (.inr (fun _ => none))))))]]) (k + 1) (n + N) lv (.ref a :: rest) (pc + 3)) : G E X mL Y k n lv (.int z :: rest) pc := by
  obtain ⟨p, l, e, R, s, m, args, below, meth, c, A, Q⟩ := X
  obtain ⟨hx, hb, hml, hown, hts, hK, hSE, hNE, hS0, hRm⟩ := C
  intro H locs ls hP hD hS hlv
  subst hRm
  refine va_newq hx hb hown (hts _ hcl) hNE.2.2.2.2.1 hK hP hD hS hS0 hz hN hby h1 h2 hd (fun a cA H hK2 hP hD hS => ?_)
  obtain ⟨-, -, -, -, -, e1⟩ := (hK.2 3 _ rfl).2
  obtain ⟨-, -, -, -, -, e2⟩ := (hK2.2 4 _ rfl).2
  have e3 : cA = E.2.1.2.2.2 := Option.some.inj (Eq.trans (Eq.symm e2) e1)
  subst e3
  exact kk a H locs ls (by rw [List.flatten_append]; exact hP) (by rw [List.flatten_append]; exact hD) hS hlv
theorem g_copyi {a a0 n0 n1 idx : Nat} {f h : Nat → Int32} {sp dp z : Int32} {g0 g : va_W} {Y2 : List va_W} (C : Ct E X cc own rm mL) (hl : Cond.methodLink own idx arraycopyName ∈ tb) (hnat : Cond.native arraycopyName ∈ tb) (hst : Cond.static arraycopyName ∈ tb) (hini : Cond.initialized "java/lang/System" ∈ tb) (i0 i q : Nat) (hg0 : Y[i0]? = some g0) (hm0 : (a0, .inl (E.2.1.1, n0, .inl f)) ∈ g0) (hg : Y[i]? = some g) (hm : g[q]? = some (a, .inl (E.2.1.1, n1, .inl h))) (h1 : ¬ sp < 0) (h2 : ¬ dp < 0) (h3 : ¬ z < 0) (h4 : sp.toNatClampNeg + z.toNatClampNeg ≤ n0) (h5 : dp.toNatClampNeg + z.toNatClampNeg ≤ n1) (hfr : 1 ≤ rm.frames) (hlo : (rest.map fun v => v.category).sum + 18 ≤ rm.locals) (hd : decode cc pc = .ok (.invokestatic idx, 3)) (hY : Y.set i (g.set q (a, .inl (E.2.1.1, n1, .inl (va_cpy f h sp.toNatClampNeg dp.toNatClampNeg z.toNatClampNeg)))) = Y2) (kk : G E X mL Y2 k n lv rest (pc + 3)) : G E X mL Y k n lv (.int z :: .int dp :: .ref a :: .int sp :: .ref a0 :: rest) pc := by
  obtain ⟨p, l, e, R, s, m, args, below, meth, c, A, Q⟩ := X
  obtain ⟨hx, hb, hml, hown, hts, hK, hSE, hNE, hS0, hRm⟩ := C
  intro H locs ls hP hD hS hlv
  subst hRm
  obtain ⟨q0, hq0, hset⟩ := fl_set Y i q g _ hg hm
  obtain ⟨q2, hq2⟩ := fl_at hg0 hm0
  refine va_copyi hx hb (by rw [hml, hlv.1]) hown (hts _ hl) (hts _ hnat) (hts _ hst) (hts _ hini) hK hP hD hS q2 q0 0 0 hq2 hq0 rfl rfl rfl h1 h2 h3 h4 h5 (fun _ _ => rfl) hfr hlo hd (fun H locs hP hD hS => ?_)
  rw [hset, hY] at hP hD
  exact kk H locs ls hP hD hS hlv
theorem g_copyx {a n1 idx t N : Nat} {f h : Nat → Int32} {sp dp z : Int32} {g : va_W} {Y2 : List va_W} (C : Ct E X cc own rm mL) (hT : ∀ A U H, SE E A U H → va_X t N f U H ∧ ¬ A t) (hl : Cond.methodLink own idx arraycopyName ∈ tb) (hnat : Cond.native arraycopyName ∈ tb) (hst : Cond.static arraycopyName ∈ tb) (hini : Cond.initialized "java/lang/System" ∈ tb) (i q : Nat) (hg : Y[i]? = some g) (hm : g[q]? = some (a, .inl (E.2.1.1, n1, .inl h))) (h1 : ¬ sp < 0) (h2 : ¬ dp < 0) (h3 : ¬ z < 0) (h4 : sp.toNatClampNeg + z.toNatClampNeg ≤ N) (h5 : dp.toNatClampNeg + z.toNatClampNeg ≤ n1) (hfr : 1 ≤ rm.frames) (hlo : (rest.map fun v => v.category).sum + 18 ≤ rm.locals) (hd : decode cc pc = .ok (.invokestatic idx, 3)) (hY : Y.set i (g.set q (a, .inl (E.2.1.1, n1, .inl (va_cpy f h sp.toNatClampNeg dp.toNatClampNeg z.toNatClampNeg)))) = Y2) (kk : G E X mL Y2 k n lv rest (pc + 3)) : G E X mL Y k n lv (.int z :: .int dp :: .ref a :: .int sp :: .ref t :: rest) pc := by
  obtain ⟨p, l, e, R, s, m, args, below, meth, c, A, Q⟩ := X
  obtain ⟨hx, hb, hml, hown, hts, hK, hSE, hNE, hS0, hRm⟩ := C
  intro H locs ls hP hD hS hlv
  subst hRm
  obtain ⟨q0, hq0, hset⟩ := fl_set Y i q g _ hg hm
  have hX9 := hT _ _ _ hSE
  refine va_copyx hx hb (by rw [hml, hlv.1]) hown (hts _ hl) (hts _ hnat) (hts _ hst) (hts _ hini) hK hP hD hS hX9.1 (Array.getElem?_eq_some_iff.mp hX9.1.choose_spec.1).1 hX9.2 q0 0 hq0 rfl h1 h2 h3 h4 h5 hfr hlo hd (fun H locs hP hD hS => ?_)
  rw [hset, hY] at hP hD
  exact kk H locs ls hP hD hS hlv
theorem g_mmax {idx : Nat} {x y : Int32} (C : Ct E X cc own rm mL) (hl : Cond.methodLink own idx Lib.Math.max.name ∈ tb) (hst : Cond.static Lib.Math.max.name ∈ tb) (hini : Cond.initialized "java/lang/Math" ∈ tb) (hco : Cond.code Lib.Math.max.name Lib.Math.max.code 2 (some .int) ∈ tb) (hfr : 1 ≤ rm.frames) (hlo : (rest.map fun v => v.category).sum + 13 ≤ rm.locals) (h1 : k ≤ rm.cells) (h2 : n ≤ rm.slots) (hd : decode cc pc = .ok (.invokestatic idx, 3)) (kk : G E X mL Y k n lv (.int (if x < y then y else x) :: rest) (pc + 3)) : G E X mL Y k n lv (.int y :: .int x :: rest) pc := by
  obtain ⟨p, l, e, R, s, m, args, below, meth, c, A, Q⟩ := X
  obtain ⟨hx, hb, hml, hown, hts, hK, hSE, hNE, hS0, hRm⟩ := C
  intro H locs ls hP hD hS hlv
  subst hRm
  exact va_mmax hx hb (by rw [hml, hlv.1]) hown (hts _ hl) (hts _ hst) (hts _ hini) (hts _ hco) hfr hlo h1 h2 hd (kk H locs ls hP hD hS hlv)
theorem g_mmin {idx : Nat} {x y : Int32} (C : Ct E X cc own rm mL) (hl : Cond.methodLink own idx Lib.Math.min.name ∈ tb) (hst : Cond.static Lib.Math.min.name ∈ tb) (hini : Cond.initialized "java/lang/Math" ∈ tb) (hco : Cond.code Lib.Math.min.name Lib.Math.min.code 2 (some .int) ∈ tb) (hfr : 1 ≤ rm.frames) (hlo : (rest.map fun v => v.category).sum + 13 ≤ rm.locals) (h1 : k ≤ rm.cells) (h2 : n ≤ rm.slots) (hd : decode cc pc = .ok (.invokestatic idx, 3)) (kk : G E X mL Y k n lv (.int (if y < x then y else x) :: rest) (pc + 3)) : G E X mL Y k n lv (.int y :: .int x :: rest) pc := by
  obtain ⟨p, l, e, R, s, m, args, below, meth, c, A, Q⟩ := X
  obtain ⟨hx, hb, hml, hown, hts, hK, hSE, hNE, hS0, hRm⟩ := C
  intro H locs ls hP hD hS hlv
  subst hRm
  exact va_mmin hx hb (by rw [hml, hlv.1]) hown (hts _ hl) (hts _ hst) (hts _ hini) (hts _ hco) hfr hlo h1 h2 hd (kk H locs ls hP hD hS hlv)
theorem g_mabs {idx : Nat} {x : Int32} (C : Ct E X cc own rm mL) (hl : Cond.methodLink own idx Lib.Math.abs.name ∈ tb) (hst : Cond.static Lib.Math.abs.name ∈ tb) (hini : Cond.initialized "java/lang/Math" ∈ tb) (hco : Cond.code Lib.Math.abs.name Lib.Math.abs.code 1 (some .int) ∈ tb) (hfr : 1 ≤ rm.frames) (hlo : (rest.map fun v => v.category).sum + 13 ≤ rm.locals) (h1 : k ≤ rm.cells) (h2 : n ≤ rm.slots) (hd : decode cc pc = .ok (.invokestatic idx, 3)) (kk : G E X mL Y k n lv (.int (if 0 ≤ x then x else 0 - x) :: rest) (pc + 3)) : G E X mL Y k n lv (.int x :: rest) pc := by
  obtain ⟨p, l, e, R, s, m, args, below, meth, c, A, Q⟩ := X
  obtain ⟨hx, hb, hml, hown, hts, hK, hSE, hNE, hS0, hRm⟩ := C
  intro H locs ls hP hD hS hlv
  subst hRm
  exact va_mabs hx hb (by rw [hml, hlv.1]) hown (hts _ hl) (hts _ hst) (hts _ hini) (hts _ hco) hfr hlo h1 h2 hd (kk H locs ls hP hD hS hlv)
end GR
