/-! PURE: what each call of the class does to the state, the rule's place, the count of stops, the past -/
abbrev Xs : Type := AS × Nat × Nat
def RelX (V : St) (X : Xs) : Prop := Rel V X.1 ∧ V.2.2.2.2.2.2.1 = X.2.1 ∧ V.2.2.2.2.2.2.2.2.2.2.2.2.2.2.1 = nI X.2.2
def HS (Vh : Hb) (K : Nat → St) (L : List Xs) : Prop := ∃ l h, l < 6 ∧ h ≤ 6 ∧ Vh.1 = nI l ∧ Vh.2 = nI h ∧ L.length ≤ h ∧ ∀ j X, L[j]? = some X → RelX (K ((l + 12 - j) % 6)) X ∧ X.1.2.2.1.length ≤ 20
theorem record_h {Vh : Hb} {k0 k1 k2 k3 k4 k5 Vn : St} {L : List Xs} {X : Xs} (H : HS Vh (KK k0 k1 k2 k3 k4 k5) L) (hL : L.length ≤ 5) (hX : RelX Vn X) (hp : X.1.2.2.1.length ≤ 20) :
    ∃ h' q0 q1 q2 q3 q4 q5, f_X0_record Vh k0 k1 k2 k3 k4 k5 Vn = some (h', q0, q1, q2, q3, q4, q5) ∧ HS h' (KK q0 q1 q2 q3 q4 q5) (X :: L) := by
  obtain ⟨l, h, hl, hh, e1, e2, e3, e4⟩ := H
  obtain ⟨o, C, r1, r2, r3, r4, r5⟩ := record_c Vh k0 k1 k2 k3 k4 k5 Vn hl hh e1 e2
  obtain ⟨c1, c2, c3⟩ := Rel_copy hX.1 hp r2
  refine ⟨o.1, o.2.1, o.2.2.1, o.2.2.2.1, o.2.2.2.2.1, o.2.2.2.2.2.1, o.2.2.2.2.2.2, r1, (l + 1) % 6, if h = 6 then 6 else h + 1, by omega, by split <;> omega, r3, r4, ?_, fun j Y hY => ?_⟩
  · simp only [List.length_cons]
    split <;> omega
  · cases j with
    | zero =>
      have : X = Y := by simpa using hY
      subst this
      rw [r5 _ (by omega), if_pos (by omega)]
      exact ⟨⟨c1, c2.trans hX.2.1, c3.trans hX.2.2⟩, hp⟩
    | succ j =>
      have hY' : L[j]? = some Y := by simpa using hY
      have hj : j < L.length := by
        rcases Nat.lt_or_ge j L.length with q | q
        · exact q
        · rw [List.getElem?_eq_none q] at hY'; cases hY'
      rw [r5 _ (by omega), if_neg (by omega), show ((l + 1) % 6 + 12 - (j + 1)) % 6 = (l + 12 - j) % 6 from by omega]
      exact e4 j Y hY'
theorem undo_h {Vh : Hb} {k0 k1 k2 k3 k4 k5 Vn : St} {L : List Xs} {X : Xs} (H : HS Vh (KK k0 k1 k2 k3 k4 k5) (X :: L)) :
    ∃ (a : Nat) (n' : St) (h' : Hb), f_X5_undo Vn Vh k0 k1 k2 k3 k4 k5 = some (nI a, n', h') ∧ a ≤ 6 ∧ RelX n' X ∧ HS h' (KK k0 k1 k2 k3 k4 k5) L := by
  obtain ⟨l, h, hl, hh, e1, e2, e3, e4⟩ := H
  simp only [List.length_cons] at e3
  obtain ⟨g, rfl⟩ : ∃ g, h = g + 1 := ⟨h - 1, by omega⟩
  obtain ⟨hX, hp⟩ := e4 0 X rfl
  rw [show (l + 12 - 0) % 6 = l from by omega] at hX
  have key : ∃ C, f_X4_copy Vn (KK k0 k1 k2 k3 k4 k5 l) = some C ∧ f_X0_takeBack Vh k0 k1 k2 k3 k4 k5 Vn = some ((nI ((l + 5) % 6), nI g), C) := by
    unfold f_X0_takeBack b_X0_takeBack_31
    rw [e1, e2, nI_pred]
    obtain ⟨C, hC, -⟩ := copy_ok Vn (KK k0 k1 k2 k3 k4 k5 l)
    refine ⟨C, hC, ?_⟩
    have hc : l = 0 ∨ l = 1 ∨ l = 2 ∨ l = 3 ∨ l = 4 ∨ l = 5 := by omega
    rcases hc with rfl | rfl | rfl | rfl | rfl | rfl
    · rw [if_pos (by decide), show f_X4_copy Vn k0 = some C from hC, Option.bind_some, if_pos (by decide)]; rfl
    · rw [if_neg (by decide), if_pos (by decide), show f_X4_copy Vn k1 = some C from hC, Option.bind_some, if_neg (by decide)]; rfl
    · rw [if_neg (by decide), if_neg (by decide), if_pos (by decide), show f_X4_copy Vn k2 = some C from hC, Option.bind_some, if_neg (by decide)]; rfl
    · rw [if_neg (by decide), if_neg (by decide), if_neg (by decide), if_pos (by decide), show f_X4_copy Vn k3 = some C from hC, Option.bind_some, if_neg (by decide)]; rfl
    · rw [if_neg (by decide), if_neg (by decide), if_neg (by decide), if_neg (by decide), if_pos (by decide), show f_X4_copy Vn k4 = some C from hC, Option.bind_some, if_neg (by decide)]; rfl
    · rw [if_neg (by decide), if_neg (by decide), if_neg (by decide), if_neg (by decide), if_neg (by decide), if_pos (by decide), show f_X4_copy Vn k5 = some C from hC, Option.bind_some, if_neg (by decide)]; rfl
  obtain ⟨C, k1', k2'⟩ := key
  obtain ⟨c1, c2, c3⟩ := Rel_copy hX.1 hp k1'
  refine ⟨g, C, (nI ((l + 5) % 6), nI g), ?_, by omega, ⟨c1, c2.trans hX.2.1, c3.trans hX.2.2⟩, (l + 5) % 6, g, by omega, by omega, rfl, rfl, by omega, fun j Y hY => ?_⟩
  · unfold f_X5_undo
    rw [e2, if_neg (nI_ne0 (by omega) (by omega)), k2', Option.bind_some]
  · have hj : j < L.length := by
      rcases Nat.lt_or_ge j L.length with q | q
      · exact q
      · rw [List.getElem?_eq_none q] at hY; cases hY
    have := e4 (j + 1) Y (by simpa using hY)
    rwa [show (l + 12 - (j + 1)) % 6 = ((l + 5) % 6 + 12 - j) % 6 from by omega] at this
theorem HS_weak {Vh : Hb} {K : Nat → St} {L : List Xs} (H : HS Vh K L) : HS Vh K [] := by
  obtain ⟨l, h, hl, hh, e1, e2, e3, e4⟩ := H
  exact ⟨l, h, hl, hh, e1, e2, Nat.zero_le _, fun j X hX => by simp at hX⟩
theorem HS_drop {Vh : Hb} {K : Nat → St} {L : List Xs} {X : Xs} (H : HS Vh K (X :: L)) : HS Vh K [X] := by
  obtain ⟨l, h, hl, hh, e1, e2, e3, e4⟩ := H
  simp only [List.length_cons] at e3
  refine ⟨l, h, hl, hh, e1, e2, by simp; omega, fun j Y hY => ?_⟩
  cases j with
  | zero => exact e4 0 Y (by simpa using hY)
  | succ j => simp at hY
/-! set -/
theorem set_ok {Vh : Hb} {k0 k1 k2 k3 k4 k5 Vn : St} {L : List Xs} {X : Xs} {j x : Nat} (H : HS Vh (KK k0 k1 k2 k3 k4 k5) L) (hL : L.length ≤ 5) (hX : RelX Vn X) (hp : X.1.2.2.1.length ≤ 20) (hj : j < 7) (h1 : ¬ nI x < lstL.getD j 0) (h2 : nI x ≤ lstG.getD j 0) :
    ∃ n' h' q0 q1 q2 q3 q4 q5, f_X5_set Vn Vh k0 k1 k2 k3 k4 k5 (nI j) (nI x) = some (nI (X.1.1 j), n', h', q0, q1, q2, q3, q4, q5) ∧ RelX n' ((updN X.1.1 j x, X.1.2.1, X.1.2.2.1, X.1.2.2.2.1, X.1.2.2.2.2.1, X.1.2.2.2.2.2.1, X.1.2.2.2.2.2.2.1, X.1.2.2.2.2.2.2.2.1, X.1.2.2.2.2.2.2.2.2.1, X.1.2.2.2.2.2.2.2.2.2), X.2) ∧ HS h' (KK q0 q1 q2 q3 q4 q5) (X :: L) := by
  obtain ⟨h', q0, q1, q2, q3, q4, q5, e1, e2⟩ := record_h H hL hX hp
  refine ⟨_, h', q0, q1, q2, q3, q4, q5, ?_, ⟨Rel_set (j := j) (x := x) hX.1, hX.2⟩, e2⟩
  unfold f_X5_set
  rw [if_neg (nI_pos (by omega)), if_pos (show nI j < (7 : Int32) from nI_lt (b := 7) hj (by decide)), ix_nI hj (by decide), cl j (by omega), if_neg h1, ix_nI hj (by decide), if_pos h2, e1, Option.bind_some, ix_nI hj (by decide), ix_nI hj (by decide), hX.1.1 j hj]
/-! sense -/
def setS (s spot sen on : Nat) : Nat := (s &&& (255 - 2 ^ (2 * spot + sen))) ||| (on * 2 ^ (2 * spot + sen))
theorem sense_tab : ∀ b, b < 8 → ∀ s, s < 256 → ∀ on, on < 2 → ((nI s &&& (((1 : Int32) <<< (nI b &&& 31)) ^^^ (-1 : Int32))) ||| (nI on <<< (nI b &&& 31))) = nI ((s &&& (255 - 2 ^ b)) ||| (on * 2 ^ b)) ∧ (s &&& (255 - 2 ^ b)) ||| (on * 2 ^ b) < 256 ∧ (nI ((s &&& (255 - 2 ^ b)) ||| (on * 2 ^ b)) >>> (nI b &&& 31)) &&& (1 : Int32) = nI on ∧ ¬ ((nI s >>> (nI b &&& 31)) &&& (1 : Int32)) < 0 := by decide +kernel
theorem bit_eq {spot sen : Nat} : (((2 : Int32) * nI spot) + nI sen) = nI (2 * spot + sen) := by
  rw [show (2 : Int32) = nI 2 from rfl, pk_mul, nI_add]
theorem sense_ok {Vh : Hb} {k0 k1 k2 k3 k4 k5 Vn : St} {L : List Xs} {X : Xs} {spot sen on : Nat} (H : HS Vh (KK k0 k1 k2 k3 k4 k5) L) (hL : L.length ≤ 5) (hX : RelX Vn X) (hp : X.1.2.2.1.length ≤ 20) (h1 : spot < 4) (h2 : sen < 2) (h3 : on < 2) (hs : X.1.2.2.2.1 < 256) :
    ∃ a n' h' q0 q1 q2 q3 q4 q5, f_X5_sense Vn Vh k0 k1 k2 k3 k4 k5 (nI spot) (nI sen) (nI on) = some (a, n', h', q0, q1, q2, q3, q4, q5) ∧ ¬ a < 0 ∧ RelX n' ((X.1.1, X.1.2.1, X.1.2.2.1, setS X.1.2.2.2.1 spot sen on, X.1.2.2.2.2.1, X.1.2.2.2.2.2.1, X.1.2.2.2.2.2.2.1, X.1.2.2.2.2.2.2.2.1, X.1.2.2.2.2.2.2.2.2.1, X.1.2.2.2.2.2.2.2.2.2), X.2) ∧ setS X.1.2.2.2.1 spot sen on < 256 ∧ HS h' (KK q0 q1 q2 q3 q4 q5) (X :: L) ∧ f_X5_ofSpot n' (nI spot) (nI sen) = some (nI on) := by
  obtain ⟨h', q0, q1, q2, q3, q4, q5, e1, e2⟩ := record_h H hL hX hp
  obtain ⟨⟨r1, r2, r3, r4, r5, r6⟩, hx2⟩ := hX
  obtain ⟨t1, t2, t3, t4⟩ := sense_tab (2 * spot + sen) (by omega) X.1.2.2.2.1 hs on h3
  have es : f_X5_sense Vn Vh k0 k1 k2 k3 k4 k5 (nI spot) (nI sen) (nI on) = b_X5_sense_32 Vn Vh k0 k1 k2 k3 k4 k5 (nI spot) (nI sen) (nI on) () := by
    unfold f_X5_sense
    rw [if_neg (nI_pos (by omega)), if_neg (show ¬ (4 : Int32) ≤ nI spot from nI_ge (b := 4) h1 (by decide)), if_neg (nI_pos (by omega)), if_pos (show nI sen < (2 : Int32) from nI_lt (b := 2) h2 (by decide))]
    have hc : on = 0 ∨ on = 1 := by omega
    rcases hc with rfl | rfl
    · rw [if_pos (show nI 0 = 0 from rfl)]
    · rw [if_neg (show ¬ nI 1 = 0 by decide), if_pos (show nI 1 = (1 : Int32) from rfl)]
  refine ⟨_, (Vn.1, Vn.2.1, Vn.2.2.1, Vn.2.2.2.1, Vn.2.2.2.2.1, Vn.2.2.2.2.2.1, Vn.2.2.2.2.2.2.1, Vn.2.2.2.2.2.2.2.1, nI (setS X.1.2.2.2.1 spot sen on), Vn.2.2.2.2.2.2.2.2.2.1, Vn.2.2.2.2.2.2.2.2.2.2.1, Vn.2.2.2.2.2.2.2.2.2.2.2.1, Vn.2.2.2.2.2.2.2.2.2.2.2.2.1, Vn.2.2.2.2.2.2.2.2.2.2.2.2.2.1, Vn.2.2.2.2.2.2.2.2.2.2.2.2.2.2.1, Vn.2.2.2.2.2.2.2.2.2.2.2.2.2.2.2.1, Vn.2.2.2.2.2.2.2.2.2.2.2.2.2.2.2.2.1, Vn.2.2.2.2.2.2.2.2.2.2.2.2.2.2.2.2.2), h', q0, q1, q2, q3, q4, q5, ?_, t4, ⟨⟨r1, r2, r3, r4, rfl, r6⟩, hx2⟩, t2, e2, ?_⟩
  · rw [es]
    unfold b_X5_sense_32 f_X4_complains f_X4_setComplaint
    rw [e1, Option.bind_some, Option.bind_some, Option.bind_some, r5, bit_eq, t1]
    rfl
  · unfold f_X5_ofSpot f_X4_complains
    rw [if_neg (nI_pos (by omega)), if_pos (show nI spot < (4 : Int32) from nI_lt (b := 4) h1 (by decide))]
    have hc : sen = 0 ∨ sen = 1 := by omega
    rcases hc with rfl | rfl
    · rw [if_pos (show nI 0 = 0 from rfl), Option.bind_some]
      show some ((nI (setS X.1.2.2.2.1 spot 0 on) >>> ((((2 : Int32) * nI spot) + nI 0) &&& 31)) &&& (1 : Int32)) = _
      rw [bit_eq]; exact congrArg some t3
    · rw [if_neg (show ¬ nI 1 = 0 by decide), if_pos (show nI 1 = 1 from rfl), Option.bind_some]
      show some ((nI (setS X.1.2.2.2.1 spot 1 on) >>> ((((2 : Int32) * nI spot) + nI 1) &&& 31)) &&& (1 : Int32)) = _
      rw [bit_eq]; exact congrArg some t3
/-! come -/
def comeA (A : AS) (w : Nat) : AS := (A.1, A.2.1, A.2.2.1 ++ [(0, w, A.2.2.2.2.2.1)], A.2.2.2.1, A.2.2.2.2.1, A.2.2.2.2.2.1, A.2.2.2.2.2.2.1, A.2.2.2.2.2.2.2.1, A.2.2.2.2.2.2.2.2.1, A.2.2.2.2.2.2.2.2.2)
theorem come_ok {Vh : Hb} {k0 k1 k2 k3 k4 k5 Vn : St} {L : List Xs} {X : Xs} {w : Nat} (H : HS Vh (KK k0 k1 k2 k3 k4 k5) L) (hL : L.length ≤ 5) (hX : RelX Vn X) (hp : X.1.2.2.1.length < 20) (hw : 1 ≤ w ∧ w ≤ 200) (hm : X.1.2.2.2.2.1 = 0) :
    ∃ n' h' q0 q1 q2 q3 q4 q5, f_X5_come Vn Vh k0 k1 k2 k3 k4 k5 (nI w) = some (nI (X.1.2.2.1.length + 1), n', h', q0, q1, q2, q3, q4, q5) ∧ RelX n' (comeA X.1 w, X.2) ∧ HS h' (KK q0 q1 q2 q3 q4 q5) (X :: L) := by
  obtain ⟨h', q0, q1, q2, q3, q4, q5, e1, e2⟩ := record_h H hL hX (by omega)
  obtain ⟨⟨r1, r2, r3, r4, r5, r6, r7, r8⟩, hx2⟩ := hX
  have est : f_X4_stepOn Vn (nI w) = some (Vn.1, upd Vn.2.1 X.1.2.2.1.length 0, upd Vn.2.2.1 X.1.2.2.1.length (nI w), upd Vn.2.2.2.1 X.1.2.2.1.length (nI X.1.2.2.2.2.2.1), Vn.2.2.2.2.1, Vn.2.2.2.2.2.1, Vn.2.2.2.2.2.2.1, nI (X.1.2.2.1.length + 1), Vn.2.2.2.2.2.2.2.2.1, Vn.2.2.2.2.2.2.2.2.2.1, Vn.2.2.2.2.2.2.2.2.2.2.1, Vn.2.2.2.2.2.2.2.2.2.2.2.1, Vn.2.2.2.2.2.2.2.2.2.2.2.2.1, Vn.2.2.2.2.2.2.2.2.2.2.2.2.2.1, Vn.2.2.2.2.2.2.2.2.2.2.2.2.2.2.1, Vn.2.2.2.2.2.2.2.2.2.2.2.2.2.2.2.1, Vn.2.2.2.2.2.2.2.2.2.2.2.2.2.2.2.2.1, Vn.2.2.2.2.2.2.2.2.2.2.2.2.2.2.2.2.2) := by
    unfold f_X4_stepOn
    rw [r3, if_pos (show nI X.1.2.2.1.length < (20 : Int32) from nI_lt (b := 20) hp (by decide)), ix_nI hp (by decide), ix_nI hp (by decide), ix_nI hp (by decide), cl _ (by omega), nI_1, r7]
  refine ⟨(Vn.1, upd Vn.2.1 X.1.2.2.1.length 0, upd Vn.2.2.1 X.1.2.2.1.length (nI w), upd Vn.2.2.2.1 X.1.2.2.1.length (nI X.1.2.2.2.2.2.1), Vn.2.2.2.2.1, Vn.2.2.2.2.2.1, Vn.2.2.2.2.2.2.1, nI (X.1.2.2.1.length + 1), Vn.2.2.2.2.2.2.2.2.1, Vn.2.2.2.2.2.2.2.2.2.1, Vn.2.2.2.2.2.2.2.2.2.2.1, Vn.2.2.2.2.2.2.2.2.2.2.2.1, Vn.2.2.2.2.2.2.2.2.2.2.2.2.1, Vn.2.2.2.2.2.2.2.2.2.2.2.2.2.1, Vn.2.2.2.2.2.2.2.2.2.2.2.2.2.2.1, Vn.2.2.2.2.2.2.2.2.2.2.2.2.2.2.2.1, Vn.2.2.2.2.2.2.2.2.2.2.2.2.2.2.2.2.1, Vn.2.2.2.2.2.2.2.2.2.2.2.2.2.2.2.2.2), h', q0, q1, q2, q3, q4, q5, ?_, ⟨⟨r1, r2, ?_, fun i p hi => ?_, r5, r6, r7, r8⟩, hx2⟩, e2⟩
  · unfold f_X5_come
    rw [if_neg (show ¬ nI w < (1 : Int32) from nI_nlt (b := 1) hw.1 (by omega)), if_pos (show nI w ≤ (200 : Int32) from nI_le (b := 200) hw.2 (by decide)), r3, if_pos (show nI X.1.2.2.1.length < (20 : Int32) from nI_lt (b := 20) hp (by decide)), if_pos (show Vn.2.2.2.2.2.2.2.2.2.1 = 0 by rw [r6, hm]; rfl), e1, Option.bind_some, est, Option.bind_some]
  · show nI (X.1.2.2.1.length + 1) = nI (X.1.2.2.1 ++ [(0, w, X.1.2.2.2.2.2.1)]).length
    rw [List.length_append]; rfl
  · have hi' : (X.1.2.2.1 ++ [(0, w, X.1.2.2.2.2.2.1)])[i]? = some p := hi
    show upd Vn.2.1 X.1.2.2.1.length 0 i = nI p.1 ∧ upd Vn.2.2.1 X.1.2.2.1.length (nI w) i = nI p.2.1 ∧ upd Vn.2.2.2.1 X.1.2.2.1.length (nI X.1.2.2.2.2.2.1) i = nI p.2.2
    by_cases c : i = X.1.2.2.1.length
    · subst c
      rw [List.getElem?_append_right (Nat.le_refl _), Nat.sub_self] at hi'
      cases hi'
      rw [upd_e rfl, upd_e rfl, upd_e rfl]
      exact ⟨rfl, rfl, rfl⟩
    · by_cases d : i < X.1.2.2.1.length
      · rw [List.getElem?_append_left d] at hi'
        rw [upd_n c, upd_n c, upd_n c]
        exact r4 i p hi'
      · rw [List.getElem?_eq_none (by rw [List.length_append]; simp only [List.length_singleton]; omega)] at hi'
        cases hi'
theorem WA_come {T : Nat} {A : AS} {w : Nat} (h : WA T A) (hp : A.2.2.1.length < 20) (hw : 1 ≤ w ∧ w ≤ 200) : WA T (comeA A w) := by
  obtain ⟨a1, a2, a3, a4, a5, a6, a7, a8, a9, a10, a11⟩ := h
  have hmem : ∀ p, p ∈ A.2.2.1 ++ [(0, w, A.2.2.2.2.2.1)] → p ∈ A.2.2.1 ∨ p = (0, w, A.2.2.2.2.2.1) := fun p hp => by
    rcases List.mem_append.mp hp with q | q
    · exact .inl q
    · exact .inr (by simpa using q)
  refine ⟨a1, ?_, fun p hp => ?_, a4, a5, a6, a7, a8, a9, ?_, fun z p hp => ?_⟩
  · show (A.2.2.1 ++ [(0, w, A.2.2.2.2.2.1)]).length ≤ 20
    rw [List.length_append]; simp only [List.length_singleton]; omega
  · rcases hmem p hp with q | q
    · exact a3 p q
    · subst q; exact ⟨by show 0 < 1000; omega, hw.1, hw.2, Nat.le_refl _⟩
  · refine List.pairwise_append.mpr ⟨a10, List.pairwise_singleton _ _, fun p hp q hq => ?_⟩
    have hq' : q = (0, w, A.2.2.2.2.2.1) := by simpa using hq
    subst hq'
    exact ⟨Nat.zero_le _, (a3 p hp).2.2.2⟩
  · rcases hmem p hp with q | q
    · exact a11 z p q
    · subst q; rfl
/-! stop, restart -/
theorem stop_ok {N T : Nat} {Vh : Hb} {k0 k1 k2 k3 k4 k5 Vn : St} {L : List Xs} {X : Xs} (hN : 5000 ≤ N) (H : HS Vh (KK k0 k1 k2 k3 k4 k5) L) (hL : L.length ≤ 5) (hX : RelX Vn X) (hA : WA T X.1) (hm : X.1.2.2.2.2.1 = 0) :
    ∃ n' h' q0 q1 q2 q3 q4 q5, f_X5_stop N Vn Vh k0 k1 k2 k3 k4 k5 = some (nI X.1.2.2.2.2.2.2.1, n', h', q0, q1, q2, q3, q4, q5) ∧ RelX n' (stopA X.1, X.2.1, X.2.2 + 1) ∧ HS h' (KK q0 q1 q2 q3 q4 q5) (X :: L) ∧ n'.2.2.2.2.2.1 0 = nI X.1.2.2.2.2.2.1 ∧ n'.2.2.2.2.2.1 1 = nI X.1.2.2.2.2.2.2.1 ∧ n'.2.2.2.2.2.1 2 = nI (tot X.1.2.2.1) ∧ n'.2.2.2.2.2.1 4 = 1 := by
  obtain ⟨h', q0, q1, q2, q3, q4, q5, e1, e2⟩ := record_h H hL hX hA.2.1
  obtain ⟨V', b1, b2, b3, b4, b5, b6, b7, b8, b9⟩ := begin_ok (p0 := 1) hN hX.1 hA
  have r6 := hX.1.2.2.2.2.2.1
  have r7 : Vn.2.2.2.2.2.2.2.2.2.2.1 = nI X.1.2.2.2.2.2.1 := hX.1.2.2.2.2.2.2.1
  have r8 : Vn.2.2.2.2.2.2.2.2.2.2.2.1 = nI X.1.2.2.2.2.2.2.1 := hX.1.2.2.2.2.2.2.2.1
  refine ⟨V', h', q0, q1, q2, q3, q4, q5, ?_, ⟨b2, b3.trans hX.2.1, by rw [b4, hX.2.2, nI_1]⟩, e2, b5.trans r7, b6.trans r8, b7, b8⟩
  unfold f_X5_stop
  rw [if_pos (show Vn.2.2.2.2.2.2.2.2.2.1 = 0 by rw [r6, hm]; rfl), e1, Option.bind_some, b1, Option.bind_some, b9, r8]
def runA (A : AS) : AS := (A.1, A.2.1, A.2.2.1, A.2.2.2.1, 0, A.2.2.2.2.2.1, A.2.2.2.2.2.2.1, A.2.2.2.2.2.2.2.1, A.2.2.2.2.2.2.2.2.1, A.2.2.2.2.2.2.2.2.2)
theorem restart_ok {N : Nat} {Vh : Hb} {k0 k1 k2 k3 k4 k5 Vn : St} {L : List Xs} {X : Xs} {R : Ru} {v : Nat → En} {n : Nat} {lm : Int32} (hN : 5000 ≤ N) (H : HS Vh (KK k0 k1 k2 k3 k4 k5) L) (hL : L.length ≤ 5) (hX : RelX Vn X) (hp : X.1.2.2.1.length ≤ 20) (hs : X.1.2.2.2.1 < 256) (hM : Mean R v n lm) (hm : X.1.2.2.2.2.1 = 2) :
    ∃ n' h' q0 q1 q2 q3 q4 q5, f_X5_restart N Vn Vh k0 k1 k2 k3 k4 k5 R = some (if (v X.1.2.2.2.1).1 = 0 then nI X.1.2.2.1.length else -5, n', h', q0, q1, q2, q3, q4, q5) ∧ RelX n' (if (v X.1.2.2.2.1).1 = 0 then (runA X.1, X.2) else X) ∧ HS h' (KK q0 q1 q2 q3 q4 q5) [] := by
  obtain ⟨h', q0, q1, q2, q3, q4, q5, e1, e2⟩ := record_h H hL hX hp
  have hx := hX
  obtain ⟨⟨r1, r2, r3, r4, r5, r6, r7⟩, hx2⟩ := hX
  have eh := ruleHolds_ok hN hM hs r5
  unfold f_X5_restart b_X5_restart_21
  rw [if_pos (show Vn.2.2.2.2.2.2.2.2.2.1 = (2 : Int32) by rw [r6, hm]; rfl), eh, Option.bind_some]
  by_cases c : (v X.1.2.2.2.1).1 = 0
  · rw [if_pos c, if_pos c, if_pos c, e1, Option.bind_some]
    exact ⟨(Vn.1, Vn.2.1, Vn.2.2.1, Vn.2.2.2.1, Vn.2.2.2.2.1, Vn.2.2.2.2.2.1, Vn.2.2.2.2.2.2.1, Vn.2.2.2.2.2.2.2.1, Vn.2.2.2.2.2.2.2.2.1, (0 : Int32), Vn.2.2.2.2.2.2.2.2.2.2.1, Vn.2.2.2.2.2.2.2.2.2.2.2.1, Vn.2.2.2.2.2.2.2.2.2.2.2.2.1, Vn.2.2.2.2.2.2.2.2.2.2.2.2.2.1, Vn.2.2.2.2.2.2.2.2.2.2.2.2.2.2.1, Vn.2.2.2.2.2.2.2.2.2.2.2.2.2.2.2.1, Vn.2.2.2.2.2.2.2.2.2.2.2.2.2.2.2.2.1, Vn.2.2.2.2.2.2.2.2.2.2.2.2.2.2.2.2.2), h', q0, q1, q2, q3, q4, q5, congrArg (fun z => some (z, ((Vn.1, Vn.2.1, Vn.2.2.1, Vn.2.2.2.1, Vn.2.2.2.2.1, Vn.2.2.2.2.2.1, Vn.2.2.2.2.2.2.1, Vn.2.2.2.2.2.2.2.1, Vn.2.2.2.2.2.2.2.2.1, (0 : Int32), Vn.2.2.2.2.2.2.2.2.2.2.1, Vn.2.2.2.2.2.2.2.2.2.2.2.1, Vn.2.2.2.2.2.2.2.2.2.2.2.2.1, Vn.2.2.2.2.2.2.2.2.2.2.2.2.2.1, Vn.2.2.2.2.2.2.2.2.2.2.2.2.2.2.1, Vn.2.2.2.2.2.2.2.2.2.2.2.2.2.2.2.1, Vn.2.2.2.2.2.2.2.2.2.2.2.2.2.2.2.2.1, Vn.2.2.2.2.2.2.2.2.2.2.2.2.2.2.2.2.2), h', q0, q1, q2, q3, q4, q5))) r3, ⟨⟨r1, r2, r3, r4, r5, rfl, r7⟩, hx2⟩, HS_weak e2⟩
  · rw [if_neg c, if_neg c, if_neg c]
    exact ⟨Vn, Vh, k0, k1, k2, k3, k4, k5, rfl, hx, HS_weak H⟩
/-! ticks pass -/
theorem pass_ok {N T n : Nat} {Vh : Hb} {k0 k1 k2 k3 k4 k5 Vn : St} {L : List Xs} {X : Xs} {R : Ru} {v : Nat → En} {nn : Nat} {lm : Int32} (hN : 5000 ≤ N) (H : HS Vh (KK k0 k1 k2 k3 k4 k5) L) (hL : L.length ≤ 5) (hX : RelX Vn X) (hA : WA T X.1) (hT : T < 2 ^ 28) (hM : Mean R v nn lm) (hn : 1 ≤ n ∧ n ≤ 999) (ht : X.1.2.2.2.2.2.1 + n ≤ 99999) :
    ∃ n' h' q0 q1 q2 q3 q4 q5 k', f_X5_pass N Vn Vh k0 k1 k2 k3 k4 k5 R (nI n) = some (nI (X.1.2.2.2.2.2.1 + n), n', h', q0, q1, q2, q3, q4, q5) ∧ RelX n' (itA n (decide ((v X.1.2.2.2.1).1 = 1)) X.1, X.2.1, k') ∧ k' ≤ X.2.2 + n ∧ HS h' (KK q0 q1 q2 q3 q4 q5) (X :: L) := by
  obtain ⟨h', q0, q1, q2, q3, q4, q5, e1, e2⟩ := record_h H hL hX hA.2.1
  have r5 : Vn.2.2.2.2.2.2.2.2.1 = nI X.1.2.2.2.1 := hX.1.2.2.2.2.1
  have r7 : Vn.2.2.2.2.2.2.2.2.2.2.1 = nI X.1.2.2.2.2.2.1 := hX.1.2.2.2.2.2.2.1
  have hs := hA.2.2.2.1
  have eh := ruleHolds_ok hN hM hs r5
  have hv01 := (hM.2.2.2.2 N hN X.1.2.2.2.1 hs).1
  have hb : (v X.1.2.2.2.1).1 = if decide ((v X.1.2.2.2.1).1 = 1) then 1 else 0 := by
    rcases hv01 with z | z
    · rw [z]; decide
    · rw [z]; decide
  generalize decide ((v X.1.2.2.2.1).1 = 1) = b at *
  obtain ⟨o, f1, W, k', f2, f3, f4, f5, f6⟩ := lp_m (body := b_X5_pass_53 N Vn Vh k0 k1 k2 k3 k4 k5 R (nI n)) (P := fun k s => ∃ (i : Nat) (W : St) (k' : Nat), k + i = n ∧ s = (W, h', q0, q1, q2, q3, q4, q5, (v X.1.2.2.2.1).1, nI i) ∧ Rel W (itA i b X.1) ∧ W.2.2.2.2.2.2.1 = X.2.1 ∧ W.2.2.2.2.2.2.2.2.2.2.2.2.2.2.1 = nI k' ∧ k' ≤ X.2.2 + i)
    (Q := fun o => ∃ (W : St) (k' : Nat), o = (W.2.2.2.2.2.2.2.2.2.2.1, W, h', q0, q1, q2, q3, q4, q5) ∧ Rel W (itA n b X.1) ∧ W.2.2.2.2.2.2.1 = X.2.1 ∧ W.2.2.2.2.2.2.2.2.2.2.2.2.2.2.1 = nI k' ∧ k' ≤ X.2.2 + n) (by
    rintro k s ⟨i, W, k', hk, rfl, hW, hr, hst, hk'⟩
    by_cases k0' : k = 0
    · have hi : i = n := by omega
      subst hi
      refine .inl ⟨_, fun K => ?_, W, k', rfl, hW, hr, hst, hk'⟩
      unfold b_X5_pass_53
      exact if_pos (nI_le (Nat.le_refl _) (by omega))
    · obtain ⟨W2, t1, t2, t3, t4⟩ := tick_ok (b := b) hN hW (WA_it i hA) (by omega) hb
      refine .inr ⟨k - 1, (W2, h', q0, q1, q2, q3, q4, q5, (v X.1.2.2.2.1).1, nI (i + 1)), by omega, ⟨i + 1, W2, k' + (if (itA i b X.1).2.2.2.2.1 = 0 ∧ b = true then 1 else 0), by omega, rfl, by rw [itA_s]; exact t2, t3.trans hr, ?_, by split <;> omega⟩, fun K => ?_⟩
      · rw [t4, hst]
        by_cases q : (itA i b X.1).2.2.2.2.1 = 0 ∧ b = true
        · rw [if_pos q, if_pos q, nI_1]
        · rw [if_neg q, if_neg q, Int32.add_zero]; rfl
      · unfold b_X5_pass_53
        refine (if_neg (show ¬ nI n ≤ nI i from nI_ge (by omega) (by omega))).trans ?_
        dsimp only
        rw [t1, Option.bind_some, nI_1]) N n (Vn, h', q0, q1, q2, q3, q4, q5, (v X.1.2.2.2.1).1, (0 : Int32)) (by omega) ⟨0, Vn, X.2.2, rfl, rfl, hX.1, hX.2.1, hX.2.2, Nat.le_refl _⟩
  have ftk : W.2.2.2.2.2.2.2.2.2.2.1 = nI (X.1.2.2.2.2.2.1 + n) := by
    have : W.2.2.2.2.2.2.2.2.2.2.1 = nI (itA n b X.1).2.2.2.2.2.1 := f3.2.2.2.2.2.2.1
    rw [this, it_tk]
  refine ⟨W, h', q0, q1, q2, q3, q4, q5, k', ?_, ⟨f3, f4, f5⟩, f6, e2⟩
  unfold f_X5_pass
  rw [if_neg (show ¬ nI n < (1 : Int32) from nI_nlt (b := 1) hn.1 (by omega)), if_pos (show nI n ≤ (999 : Int32) from nI_le (b := 999) hn.2 (by decide)), r7, show (99999 : Int32) - nI n = nI (99999 - n) from pk_sub (a := 99999) (by omega), if_pos (nI_le (by omega) (by omega)), e1, Option.bind_some, eh, Option.bind_some]
  rw [← ftk, ← f2]
  exact f1
