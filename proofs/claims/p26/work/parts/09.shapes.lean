/-! SHAPES: what the objects of each class hold, and their cells -/
abbrev Fn : Type := Nat → Int32
abbrev Pd : Type := Fn × Int32
abbrev Rd : Type := Fn × Fn × Int32 × Int32
abbrev Ru : Type := Fn × Fn × Fn × Fn × Int32 × Int32
abbrev St : Type := Fn × Fn × Fn × Fn × Fn × Fn × Nat × Int32 × Int32 × Int32 × Int32 × Int32 × Int32 × Int32 × Int32 × Int32 × Int32 × Int32
abbrev Hb : Type := Int32 × Int32
def refs (l : List Nat) : Nat → Option Nat := fun i => l[i]?
abbrev pd (E : Ev) (a : Nat → Nat) (V : Pd) : va_W := [(a 0, .inr (1, [.ref (a 1), .int V.2])), (a 1, .inl (E.2.1.2.1, 60, .inl V.1))]
abbrev rd (E : Ev) (a : Nat → Nat) (V : Rd) : va_W := [(a 0, .inr (2, [.ref (a 1), .ref (a 2), .int V.2.2.1, .int V.2.2.2])), (a 1, .inl (E.2.1.2.1, 60, .inl V.1)), (a 2, .inl (E.2.1.1, 60, .inl V.2.1))]
abbrev ru (E : Ev) (r : Nat) (a : Nat → Nat) (V : Ru) : va_W := [(r, .inr (3, [.ref (a 1), .ref (a 2), .ref (a 3), .ref (a 4), .int V.2.2.2.2.1, .int V.2.2.2.2.2])), (a 1, .inl (E.2.1.2.1, 60, .inl V.1)), (a 2, .inl (E.2.1.1, 60, .inl V.2.1)), (a 3, .inl (E.2.1.1, 60, .inl V.2.2.1)), (a 4, .inl (E.2.1.1, 60, .inl V.2.2.2.1))]
abbrev sc (E : Ev) (a : Nat → Nat) (V : St) : va_W := [(a 0, .inr (4, [.ref (a 1), .ref (a 2), .ref (a 3), .ref (a 4), .ref (a 5), .ref (a 6), .ref V.2.2.2.2.2.2.1, .int V.2.2.2.2.2.2.2.1, .int V.2.2.2.2.2.2.2.2.1, .int V.2.2.2.2.2.2.2.2.2.1, .int V.2.2.2.2.2.2.2.2.2.2.1, .int V.2.2.2.2.2.2.2.2.2.2.2.1, .int V.2.2.2.2.2.2.2.2.2.2.2.2.1, .int V.2.2.2.2.2.2.2.2.2.2.2.2.2.1, .int V.2.2.2.2.2.2.2.2.2.2.2.2.2.2.1, .int V.2.2.2.2.2.2.2.2.2.2.2.2.2.2.2.1, .int V.2.2.2.2.2.2.2.2.2.2.2.2.2.2.2.2.1, .int V.2.2.2.2.2.2.2.2.2.2.2.2.2.2.2.2.2])), (a 1, .inl (E.2.1.1, 7, .inl V.1)), (a 2, .inl (E.2.1.1, 20, .inl V.2.1)), (a 3, .inl (E.2.1.1, 20, .inl V.2.2.1)), (a 4, .inl (E.2.1.1, 20, .inl V.2.2.2.1)), (a 5, .inl (E.2.1.1, 4, .inl V.2.2.2.2.1)), (a 6, .inl (E.2.1.1, 30, .inl V.2.2.2.2.2.1))]
abbrev hb (E : Ev) (a : Nat → Nat) (x0 x1 x2 x3 x4 x5 : Nat) (V : Hb) : va_W := [(a 0, .inr (0, [.ref (a 1), .int V.1, .int V.2])), (a 1, .inl (E.2.1.2.2.2, 6, .inr (.inr (.inr (.inr (refs [x0, x1, x2, x3, x4, x5]))))))]
abbrev xo (E : Ev) (a : Nat → Nat) (x0 x1 x2 x3 x4 x5 x6 : Nat) : va_W := [(a 0, .inr (5, [.ref x0, .ref x1, .ref x2, .ref x3, .ref x4, .ref x5, .ref x6]))]
abbrev qa (E : Ev) (a : Nat → Nat) (x0 x1 : Nat) : va_W := [(a 0, .inl (E.2.1.2.2.2, 2, .inr (.inr (.inr (.inr (refs [x0, x1]))))))]
abbrev za (E : Ev) (a : Nat → Nat) (V : Fn) : va_W := [(a 0, .inl (E.2.1.2.2.1, 2, .inl V))]
def ix {α : Type} (z : Int32) (n : Nat) (A : Option α) : Option α := if z < 0 ∨ n ≤ z.toNatClampNeg then none else A
def nz {α : Type} (y : Int32) (A : Option α) : Option α := if y = 0 then none else A
def zb {α : Type} (v : Int32) (A : Option α) : Option α := if v = 0 ∨ v = 1 then A else none
def lp {S O : Type} (body : (S → Option O) → S → Option O) : Nat → S → Option O
  | 0, _ => none
  | n + 1, s => body (lp body n) s
theorem ix_s {α : Type} {z : Int32} {n : Nat} {A : Option α} {o : α} (h : ix z n A = some o) : vp_in z n ∧ A = some o := by
  unfold ix at h
  by_cases c : z < 0 ∨ n ≤ z.toNatClampNeg
  · rw [if_pos c] at h; cases h
  · rw [if_neg c] at h; exact ⟨c, h⟩
theorem nz_s {α : Type} {y : Int32} {A : Option α} {o : α} (h : nz y A = some o) : ¬ y = 0 ∧ A = some o := by
  unfold nz at h
  by_cases c : y = 0
  · rw [if_pos c] at h; cases h
  · rw [if_neg c] at h; exact ⟨c, h⟩
theorem zb_s {α : Type} {v : Int32} {A : Option α} {o : α} (h : zb v A = some o) : (v = 0 ∨ v = 1) ∧ A = some o := by
  unfold zb at h
  by_cases c : v = 0 ∨ v = 1
  · rw [if_pos c] at h; exact ⟨c, h⟩
  · rw [if_neg c] at h; cases h
theorem f_if {α : Type} {c : Prop} [Decidable c] {A B : Option α} {o : α} (h : (if c then A else B) = some o) : (c → A = some o) ∧ (¬ c → B = some o) := by
  by_cases hc : c
  · rw [if_pos hc] at h; exact ⟨fun _ => h, fun z => absurd hc z⟩
  · rw [if_neg hc] at h; exact ⟨fun z => absurd z hc, fun _ => h⟩
theorem bind_s {α β : Type} {x : Option α} {k : α → Option β} {o : β} (h : x.bind k = some o) : ∃ v, x = some v ∧ k v = some o := by
  cases x with
  | none => cases h
  | some v => exact ⟨v, rfl, h⟩
theorem lp_ind {S O : Type} {body : (S → Option O) → S → Option O} {o : O} {P : S → Prop} (step : ∀ K : S → Option O, (∀ s, K s = some o → P s) → ∀ s, body K s = some o → P s) : ∀ (n : Nat) (s : S), lp body n s = some o → P s := by
  intro n
  induction n with
  | zero => intro s h; cases h
  | succ n ih => exact fun s h => step (lp body n) ih s h
theorem ofI_m1 : Int32.ofInt (-1) = (-1 : Int32) := by
  rw [← Int32.neg_ofInt, show Int32.ofInt 1 = (1 : Int32) from by decide]
theorem dec1 {x : Int32} : x + Int32.ofInt (-1) = x - 1 := by rw [ofI_m1, Int32.sub_eq_add_neg]
theorem ii {x : Int32} {z : Int} {w : Int32} (h : Int32.ofInt z = w) : x + Int32.ofInt z = x + w := by rw [h]
theorem ne_ti {x k : Int32} {a : Int} (h : ¬ x = k) (hk : k.toInt = a) : x.toInt ≠ a := fun e => h (Int32.toInt_inj.mp (e.trans hk.symm))
def RIn (E : Ev) (g : va_W) (r : Nat) (R : Ru) : Prop := ∃ b : Nat → Nat, ∀ c ∈ ru E r b R, c ∈ g
section SCR
variable {E : Ev} {X : Cx} {cc : ByteArray} {own : String} {rm : Room} {mL : Nat} {Y : List va_W} {k n : Nat} {lv : List (Nat × Value)} {rest : List Value} {pc : Nat} {L : Nat} {xs : Nat → Int32}
theorem g_sld {z : Int32} (C : Ct E X cc own rm mL) (hsL : E.2.2.2.2.2.2.2.2.1 = L) (hsx : E.2.2.2.2.2.2.2.2.2 = xs) (hin : vp_in z L) (hd : decode cc pc = .ok (.iaload, 1)) (kk : G E X mL Y k n lv (.int (xs z.toNatClampNeg) :: rest) (pc + 1)) : G E X mL Y k n lv (.int z :: .ref E.2.2.2.2.2.2.2.1 :: rest) pc := by
  subst hsL hsx
  obtain ⟨p, l, e, R, s, m, args, below, meth, c, A, Q⟩ := X
  obtain ⟨hx, hb, hml, hown, hts, hK, hSE, hNE, hS0, hRm⟩ := C
  intro H locs ls hP hD hS hlv
  exact va_sld hx hb hSE.2.2.2.2.2.1 (Array.getElem?_eq_some_iff.mp hSE.2.2.2.2.2.1.choose_spec.1).1 hSE.2.2.2.2.2.2 hS hin hd (kk H locs ls hP hD hS hlv)
theorem g_slen (C : Ct E X cc own rm mL) (hsL : E.2.2.2.2.2.2.2.2.1 = L) (hsx : E.2.2.2.2.2.2.2.2.2 = xs) (hd : decode cc pc = .ok (.arraylength, 1)) (kk : G E X mL Y k n lv (.int (Int32.ofNat L) :: rest) (pc + 1)) : G E X mL Y k n lv (.ref E.2.2.2.2.2.2.2.1 :: rest) pc := by
  subst hsL hsx
  obtain ⟨p, l, e, R, s, m, args, below, meth, c, A, Q⟩ := X
  obtain ⟨hx, hb, hml, hown, hts, hK, hSE, hNE, hS0, hRm⟩ := C
  intro H locs ls hP hD hS hlv
  exact va_slen hx hb hSE.2.2.2.2.2.1 (Array.getElem?_eq_some_iff.mp hSE.2.2.2.2.2.1.choose_spec.1).1 hSE.2.2.2.2.2.2 hS hd (kk H locs ls hP hD hS hlv)
end SCR
