theorem g_xret {E : Ev} {X : Cx} {cc : ByteArray} {own : String} {rm : Room} {mL : Nat} {Y : List va_W} {k n : Nat} {lv : List (Nat × Value)} {pc : Nat} {v : Int32} {ty : FieldType} {post : Option Value → List va_W → Prop} (C : Ct E X cc own rm mL) (K : Cr E X post rm (some ty)) (hz : narrow ty (.int v) = .int v) (hd : decode cc pc = .ok (.ireturn, 1)) (h1 : k ≤ rm.cells) (h2 : n ≤ rm.slots) (hp : post (some (.int v)) Y) : G E X mL Y k n lv [.int v] pc := by
  obtain ⟨p, l, e, R, s, m, args, below, meth, c, A, Q⟩ := X
  obtain ⟨hx, hb, hml, hown, hts, hK, hSE, hNE, hS0, hRm⟩ := C
  intro H locs ls hP hD hS hlv
  obtain ⟨rfl, hlk, hr⟩ := K
  refine W.widen h1 h2 ?_
  exact W.zret hx hb hr hz (fun t ht hW => ⟨⟨_, Y, rfl, hp, by rw [ht]; exact hP, hK.moved hW.alike, hD⟩, hS.F ht⟩) hS.2.2 hd
theorem g_callVK {E : Ev} {X : Cx} {cc : ByteArray} {own : String} {rm : Room} {mL : Nat} {Y : List va_W} {k n : Nat} {lv : List (Nat × Value)} {rest st : List Value} {pc : Nat} {y : MethodName} {cd : ByteArray} {m9 idx a : Nat} {ret : Option FieldType} {rmy : Room} {As : List Value} {Yc : List va_W} {post : Option Value → List va_W → Prop} (C : Ct E X cc own rm mL) (F : CF y cd m9 ret As.length) (hM : ∀ l, MG l y cd m9 ret rmy E (.ref a :: As) Yc post) (hl : Cond.methodLink own idx y ∈ tb)
    (hO : ∀ A U H, SE E A U H → va_O y.cls a A U H) (ic : List Nat) (hic : ic.map (fun i => Y[i]?) = Yc.map some) (hn : ic.Nodup) (hst : st = As.reverse ++ .ref a :: rest) (hw : (rest.map fun v => v.category).sum ≤ 8)
    (hR : rmy.frames + 1 ≤ rm.frames ∧ 8 + (m9 + 11) + rmy.locals ≤ rm.locals ∧ k + rmy.cells ≤ rm.cells ∧ n + rmy.slots ≤ rm.slots) (hd : decode cc pc = .ok (.invokevirtual idx, 3))
    (kk : ∀ v Y1, post v Y1 → G E X mL (rep Y ic Y1) (k + rmy.cells) (n + rmy.slots) lv (v.toList ++ rest) (pc + 3)) : G E X mL Y k n lv st pc := by
  obtain ⟨p, l, e, R, s, m, args, below, meth, c, A, Q⟩ := X
  obtain ⟨hx, hb, hml, hown, hts, hK, hSE, hNE, hS0, hRm⟩ := C
  obtain ⟨f1, f2, f3, f4, f5⟩ := F
  subst hRm
  intro H locs ls hP hD hS hlv
  have hpre := g_pre (Yc := Yc) hK hSE hNE hS0 hic hn hP hD hS (.ref a :: As)
  refine g_run hS0 hic hn hP hD hS hlv (fun q h => h) (va_runV (As := As) (rest := rest) ⟨hx, hb, hml, hown, hts⟩ (hM l H.size) (cwV (own := own) (index := idx) As.length hts (goodTb ?_) rfl rfl rfl f5 ⟨hR.1, hR.2.1⟩) ⟨hpre.1, va_Orecv (hO _ _ _ hSE) hS, hpre.2⟩ rfl rfl hlv.1 hst (lv_room hw) hd hR.2.2) kk
  intro w hw9
  simp only [wsV, List.cons_append, List.nil_append, List.mem_cons] at hw9
  rcases hw9 with e1 | e1 | e1 | e1 | e1 | e1
  · rw [e1]; exact hl
  · rw [e1]; exact f1
  · rw [e1]; exact f2
  · rw [e1]; exact f3
  · rw [e1]; exact f4
  · exact e1
theorem g_pick {E : Ev} {X : Cx} {mL : Nat} {Y : List va_W} {k n : Nat} {lv : List (Nat × Value)} {st : List Value} {pc : Nat} (ic : List Nat) {Yc : List va_W} (hic : ic.map (fun i => Y[i]?) = Yc.map some) (hn : ic.Nodup) (he : (era Y ic).flatten = []) (kk : G E X mL Yc k n lv st pc) : G E X mL Y k n lv st pc :=
  g_cut ((perm_split ic Yc Y hn hic).trans (by rw [he, List.append_nil])) kk
theorem refs6 {x0 x1 x2 x3 x4 x5 i0 i1 i2 i3 i4 i5 : Nat} (h0 : i0 = 0) (h1 : i1 = 1) (h2 : i2 = 2) (h3 : i3 = 3) (h4 : i4 = 4) (h5 : i5 = 5) : va_up (va_up (va_up (va_up (va_up (va_up (fun _ => none) i0 (some x0)) i1 (some x1)) i2 (some x2)) i3 (some x3)) i4 (some x4)) i5 (some x5) = refs [x0, x1, x2, x3, x4, x5] := by
  subst h0 h1 h2 h3 h4 h5
  funext j
  match j with
  | 0 => rfl
  | 1 => rfl
  | 2 => rfl
  | 3 => rfl
  | 4 => rfl
  | 5 => rfl
  | j + 6 => simp [va_up, refs]
theorem refs2 {x0 x1 i0 i1 : Nat} (h0 : i0 = 0) (h1 : i1 = 1) : va_up (va_up (fun _ => none) i0 (some x0)) i1 (some x1) = refs [x0, x1] := by
  subst h0 h1
  funext j
  match j with
  | 0 => rfl
  | 1 => rfl
  | j + 2 => simp [va_up, refs]
