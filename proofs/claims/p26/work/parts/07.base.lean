/-! WORLDS AS ROWS OF SEGMENTS: the ghost values of a run, what is known of the tables and statics, places and permutations -/
abbrev Ev : Type := va_G × (ClassId × ClassId × ClassId × ClassId) × (Nat × Nat × Nat × Nat × Nat × Nat × Nat × (Nat → Int32))
def tyE (E : Ev) : List (ClassId × FieldType) := [(E.2.1.1, .int), (E.2.1.2.1, .char), (E.2.1.2.2.1, .boolean), (E.2.1.2.2.2, .object "SoftStairs$Stairs")]
def KE (E : Ev) (U : State) : Prop := va_K E.1 vwCl (tyE E) U
def lstL : List Int32 := [10, 1, 1, 1, 1, 1, 1]
def lstG : List Int32 := [90, 40, 30, 99, 99, 999, 9999]
def lstF : List Int32 := [50, 10, 6, 20, 5, 100, 800]
def lstB : List Int32 := [65, 124, 66, 124, 67, 124, 68]
def SE (E : Ev) (A : Nat → Prop) (U : State) (H : Heap) : Prop :=
  (va_Z "SoftStairs" "LEAST" "[I" (.ref E.2.2.1) A U H ∧ va_T .int E.2.2.1 7 (fun j => .int (lstL.getD j 0)) A U H) ∧
  (va_Z "SoftStairs" "GREATEST" "[I" (.ref E.2.2.2.1) A U H ∧ va_T .int E.2.2.2.1 7 (fun j => .int (lstG.getD j 0)) A U H) ∧
  (va_Z "SoftStairs" "AT_FIRST" "[I" (.ref E.2.2.2.2.1) A U H ∧ va_X E.2.2.2.2.1 7 (fun j => lstF.getD j 0) U H ∧ ¬ A E.2.2.2.2.1) ∧
  (va_O "java/lang/String" E.2.2.2.2.2.1 A U H ∧ va_OF "java/lang/String" "coder" "B" (.int 0) E.2.2.2.2.2.1 A U H ∧ va_OF "java/lang/String" "value" "[B" (.ref E.2.2.2.2.2.2.1) E.2.2.2.2.2.1 A U H ∧ va_T .byte E.2.2.2.2.2.2.1 7 (fun j => .int (lstB.getD j 0)) A U H) ∧
  va_Z "java/lang/String" "COMPACT_STRINGS" "Z" (.int 1) A U H ∧
  va_X E.2.2.2.2.2.2.2.1 E.2.2.2.2.2.2.2.2.1 E.2.2.2.2.2.2.2.2.2 U H ∧ ¬ A E.2.2.2.2.2.2.2.1
def NE (E : Ev) (U : State) : Prop :=
  va_Nw (.methodLinkNest "SoftStairs" 9 ⟨"SoftStairs$Pad", "<init>", "()V"⟩ "SoftStairs") U ∧ va_Nw (.methodLinkNest "SoftStairs" 18 ⟨"SoftStairs$Reader", "<init>", "()V"⟩ "SoftStairs") U ∧
  va_Nw (.methodLinkNest "SoftStairs$Reader" 21 ⟨"SoftStairs$Rule", "<init>", "()V"⟩ "SoftStairs") U ∧ va_Nw (.fieldLinkNest "SoftStairs$Stairs" 38 "SoftStairs" "AT_FIRST" "[I" "SoftStairs") U ∧
  va_AO "SoftStairs$Stairs" U ∧ vk_R "SoftStairs" 33 "A|B|C|D" E.2.2.2.2.2.1 U
theorem KE.moved {E : Ev} {u U : State} (hvm : u.vm.Alike U.vm) (h : KE E u) : KE E U := va_K.moved hvm h
theorem SE.moved {E : Ev} {A : Nat → Prop} {u U : State} {H : Heap} (hvm : u.vm.Alike U.vm) (h : SE E A u H) : SE E A U H :=
  ⟨⟨h.1.1.moved hvm, h.1.2.moved hvm⟩, ⟨h.2.1.1.moved hvm, h.2.1.2.moved hvm⟩, ⟨h.2.2.1.1.moved hvm, h.2.2.1.2.1.moved hvm, h.2.2.1.2.2⟩, ⟨va_O.moved hvm h.2.2.2.1.1, va_OF.moved hvm h.2.2.2.1.2.1, va_OF.moved hvm h.2.2.2.1.2.2.1, va_T.moved hvm h.2.2.2.1.2.2.2⟩, h.2.2.2.2.1.moved hvm, h.2.2.2.2.2.1.moved hvm, h.2.2.2.2.2.2⟩
theorem SE.kept {E : Ev} {A : Nat → Prop} {U : State} {H H1 : Heap} (h : SE E A U H) (hq : ∀ a : Nat, a < H.size → ¬ A a → H1[a]? = H[a]?) : SE E A U H1 :=
  ⟨⟨h.1.1.kept hq, h.1.2.kept hq⟩, ⟨h.2.1.1.kept hq, h.2.1.2.kept hq⟩, ⟨h.2.2.1.1.kept hq, h.2.2.1.2.1.kept (hq _ (Array.getElem?_eq_some_iff.mp h.2.2.1.2.1.choose_spec.1).1 h.2.2.1.2.2), h.2.2.1.2.2⟩, ⟨h.2.2.2.1.1.kept hq, h.2.2.2.1.2.1.kept hq, h.2.2.2.1.2.2.1.kept hq, h.2.2.2.1.2.2.2.kept hq⟩, h.2.2.2.2.1.kept hq, h.2.2.2.2.2.1.kept (hq _ (Array.getElem?_eq_some_iff.mp h.2.2.2.2.2.1.choose_spec.1).1 h.2.2.2.2.2.2), h.2.2.2.2.2.2⟩
theorem SE.narrow {E : Ev} {A B : Nat → Prop} {U : State} {H : Heap} (h : SE E A U H) (hAB : ∀ q, B q → A q) : SE E B U H :=
  ⟨⟨h.1.1.narrow hAB, h.1.2.narrow hAB⟩, ⟨h.2.1.1.narrow hAB, h.2.1.2.narrow hAB⟩, ⟨h.2.2.1.1.narrow hAB, h.2.2.1.2.1, fun z => h.2.2.1.2.2 (hAB _ z)⟩, ⟨h.2.2.2.1.1.narrow hAB, h.2.2.2.1.2.1.narrow hAB, h.2.2.2.1.2.2.1.narrow hAB, h.2.2.2.1.2.2.2.narrow hAB⟩, h.2.2.2.2.1.narrow hAB, h.2.2.2.2.2.1, fun z => h.2.2.2.2.2.2 (hAB _ z)⟩
theorem NE.same {E : Ev} {u U : State} (hv : u.vm = U.vm) (h : NE E u) : NE E U :=
  ⟨h.1.same rfl hv, h.2.1.same rfl hv, h.2.2.1.same rfl hv, h.2.2.2.1.same rfl hv, va_AO.moved (by rw [hv]; exact Vm.Alike.refl _) h.2.2.2.2.1, vk_R.same hv.symm h.2.2.2.2.2⟩
theorem NE.warm {E : Ev} {s U : State} (hW : s.WarmedH U.vm) (h : NE E s) : NE E U :=
  ⟨va_Nw.warmM hW h.1, va_Nw.warmM hW h.2.1, va_Nw.warmM hW h.2.2.1, va_Nw.warmF hW h.2.2.2.1, va_AO.moved hW.alike h.2.2.2.2.1, vk_R.warm hW h.2.2.2.2.2⟩
-- membership and pairs
theorem P_iff {D : va_G} {cl : List vw_C} {ws : va_W} {H : Heap} : va_P D cl ws H ↔ ∀ q ∈ ws, va_at D cl q H := by
  constructor
  · intro h q hq
    obtain ⟨k, hk⟩ := List.mem_iff_getElem?.mp hq
    exact h k q hk
  · intro h k q hk
    exact h q (List.mem_of_getElem? hk)
theorem D_iff {A : Nat → Prop} {ws : va_W} : va_D A ws ↔ ws.Pairwise (fun p q => p.1 ≠ q.1) ∧ ∀ q ∈ ws, A q.1 := by
  constructor
  · rintro ⟨h1, h2⟩
    refine ⟨List.pairwise_iff_getElem.mpr fun i j hi hj hij e => ?_, fun q hq => ?_⟩
    · have := h1 i j ws[i] ws[j] (List.getElem?_eq_getElem hi) (List.getElem?_eq_getElem hj) e
      omega
    · obtain ⟨k, hk⟩ := List.mem_iff_getElem?.mp hq
      exact h2 k q hk
  · rintro ⟨h1, h2⟩
    refine ⟨fun i j p q hi hj e => ?_, fun k q hk => h2 q (List.mem_of_getElem? hk)⟩
    have h3 := List.pairwise_iff_getElem.mp h1
    obtain ⟨li, ei⟩ := List.getElem?_eq_some_iff.mp hi
    obtain ⟨lj, ej⟩ := List.getElem?_eq_some_iff.mp hj
    rcases Nat.lt_trichotomy i j with h | h | h
    · exact absurd (by rw [ei, ej]; exact e) (h3 i j li lj h)
    · exact h
    · exact absurd (by rw [ei, ej]; exact e.symm) (h3 j i lj li h)
theorem P_perm {D : va_G} {cl : List vw_C} {w1 w2 : va_W} {H : Heap} (hp : w1.Perm w2) (h : va_P D cl w1 H) : va_P D cl w2 H :=
  P_iff.mpr fun q hq => P_iff.mp h q (hp.mem_iff.mpr hq)
theorem D_perm {A : Nat → Prop} {w1 w2 : va_W} (hp : w1.Perm w2) (h : va_D A w1) : va_D A w2 := by
  obtain ⟨h1, h2⟩ := D_iff.mp h
  exact D_iff.mpr ⟨(hp.pairwise_iff (fun {x y} (e : x.1 ≠ y.1) => Ne.symm e)).mp h1, fun q hq => h2 q (hp.mem_iff.mpr hq)⟩
-- segments put back in their places
def rep : List va_W → List Nat → List va_W → List va_W
  | Y, [], ss => Y ++ ss
  | Y, i :: is, [] => rep (Y.set i []) is []
  | Y, i :: is, s :: ss => rep (Y.set i s) is ss
def era : List va_W → List Nat → List va_W
  | Y, [] => Y
  | Y, i :: is => era (Y.set i []) is
theorem set_perm : ∀ (Y : List va_W) (i : Nat) (s : va_W), i < Y.length → (Y.set i s).flatten.Perm (s ++ (Y.set i []).flatten)
  | [], i, s, h => absurd h (Nat.not_lt_zero _)
  | y :: ys, 0, s, _ => by simp
  | y :: ys, i + 1, s, h => by
    have ih := set_perm ys i s (Nat.lt_of_succ_lt_succ h)
    simp only [List.set_cons_succ, List.flatten_cons]
    exact (ih.append_left y).trans (by
      rw [← List.append_assoc, ← List.append_assoc]
      exact List.Perm.append_right _ List.perm_append_comm)
theorem era_set : ∀ (ic : List Nat) (Y : List va_W) (i : Nat) (s : va_W), i ∉ ic → era (Y.set i s) ic = (era Y ic).set i s
  | [], Y, i, s, _ => rfl
  | j :: js, Y, i, s, h => by
    have hij : i ≠ j := fun e => h (by rw [e]; exact List.mem_cons_self)
    show era ((Y.set i s).set j []) js = (era (Y.set j []) js).set i s
    rw [List.set_comm _ _ hij]
    exact era_set js (Y.set j []) i s (fun q => h (List.mem_cons_of_mem _ q))
theorem era_len : ∀ (ic : List Nat) (Y : List va_W), (era Y ic).length = Y.length
  | [], Y => rfl
  | i :: is, Y => by rw [era, era_len is, List.length_set]
theorem perm_rep : ∀ (ic : List Nat) (Y Y1 : List va_W), ic.Nodup → (∀ i ∈ ic, i < Y.length) → (rep Y ic Y1).flatten.Perm (Y1.flatten ++ (era Y ic).flatten)
  | [], Y, Y1, _, _ => by
    show (Y ++ Y1).flatten.Perm _
    rw [List.flatten_append]
    exact List.perm_append_comm
  | i :: is, Y, [], hn, hl => perm_rep is (Y.set i []) [] (List.nodup_cons.mp hn).2 (fun j hj => by rw [List.length_set]; exact hl j (List.mem_cons_of_mem _ hj))
  | i :: is, Y, s :: ss, hn, hl => by
    have ih := perm_rep is (Y.set i s) ss (List.nodup_cons.mp hn).2 (fun j hj => by rw [List.length_set]; exact hl j (List.mem_cons_of_mem _ hj))
    rw [era_set is Y i s (List.nodup_cons.mp hn).1] at ih
    have h2 := set_perm (era Y is) i s (by rw [era_len]; exact hl i List.mem_cons_self)
    rw [← era_set is Y i [] (List.nodup_cons.mp hn).1] at h2
    refine ih.trans ((h2.append_left _).trans ?_)
    show (ss.flatten ++ (s ++ (era (Y.set i []) is).flatten)).Perm ((s ++ ss.flatten) ++ (era (Y.set i []) is).flatten)
    rw [← List.append_assoc]
    exact List.Perm.append_right _ List.perm_append_comm
theorem perm_split : ∀ (ic : List Nat) (Yc Y : List va_W), ic.Nodup → ic.map (fun i => Y[i]?) = Yc.map some → Y.flatten.Perm (Yc.flatten ++ (era Y ic).flatten)
  | [], Yc, Y, _, h => by
    cases Yc with
    | nil => exact List.Perm.refl _
    | cons c cs => simp at h
  | i :: is, Yc, Y, hn, h => by
    cases Yc with
    | nil => simp at h
    | cons c cs =>
      simp only [List.map_cons, List.cons.injEq] at h
      obtain ⟨h1, h2⟩ := h
      obtain ⟨hn1, hn2⟩ := List.nodup_cons.mp hn
      have hl := (List.getElem?_eq_some_iff.mp h1).1
      have e1 : Y.set i c = Y := by
        apply List.ext_getElem?
        intro j
        by_cases hj : i = j
        · subst hj
          rw [List.getElem?_set_self hl, h1]
        · rw [List.getElem?_set_ne hj]
      have ih := perm_split is cs (Y.set i []) hn2 (by
        rw [← h2]
        apply List.map_congr_left
        intro j hj
        rw [List.getElem?_set_ne (fun e => hn1 (by rw [e]; exact hj))])
      have h3 := set_perm Y i c hl
      rw [e1] at h3
      refine h3.trans ((ih.append_left c).trans ?_)
      show (c ++ (cs.flatten ++ (era (Y.set i []) is).flatten)).Perm ((c ++ cs.flatten) ++ (era (Y.set i []) is).flatten)
      rw [List.append_assoc]
theorem lens {ic : List Nat} {Yc Y : List va_W} (h : ic.map (fun i => Y[i]?) = Yc.map some) : ∀ i ∈ ic, i < Y.length := by
  intro i hi
  obtain ⟨k, hk⟩ := List.mem_iff_getElem?.mp hi
  have h1 : (ic.map (fun i => Y[i]?))[k]? = some Y[i]? := by rw [List.getElem?_map, hk]; rfl
  rw [h, List.getElem?_map] at h1
  cases hc : Yc[k]? with
  | none => rw [hc] at h1; cases h1
  | some c =>
    rw [hc] at h1
    have h2 : some c = Y[i]? := Option.some.inj h1
    exact (List.getElem?_eq_some_iff.mp h2.symm).1
theorem joinY {A0 : Nat → Prop} {D : va_G} {cl : List vw_C} {Y Yc Y1 : List va_W} {ic : List Nat} {H H1 : Heap} (hP : va_P D cl Y.flatten H) (hD : va_D A0 Y.flatten) (hic : ic.map (fun i => Y[i]?) = Yc.map some) (hn : ic.Nodup)
    (hk : ∀ q : Nat, q < H.size → ¬ va_A Yc.flatten H.size q → H1[q]? = H[q]?) (hF : ∀ q, va_A Yc.flatten H.size q → A0 q) (hP1 : va_P D cl Y1.flatten H1) (hD1 : va_D (va_A Yc.flatten H.size) Y1.flatten) :
    va_P D cl (rep Y ic Y1).flatten H1 ∧ va_D A0 (rep Y ic Y1).flatten := by
  have hs := perm_split ic Yc Y hn hic
  have hr := (perm_rep ic Y Y1 hn (lens hic)).symm
  have hP2 := P_iff.mp (P_perm hs hP)
  obtain ⟨d1, d2⟩ := D_iff.mp (D_perm hs hD)
  obtain ⟨-, d4, d5⟩ := List.pairwise_append.mp d1
  have apart : ∀ q ∈ (era Y ic).flatten, q.1 < H.size ∧ ¬ va_A Yc.flatten H.size q.1 := by
    intro q hq
    have hl : q.1 < H.size := (hP2 q (List.mem_append_right _ hq)).lt
    refine ⟨hl, fun h => ?_⟩
    rcases h with ⟨k, e, h⟩ | h
    · exact d5 (q.1, e) (List.mem_of_getElem? h) q hq rfl
    · omega
  obtain ⟨n1, n2⟩ := D_iff.mp hD1
  refine ⟨P_perm hr (P_iff.mpr fun q hq => ?_), D_perm hr (D_iff.mpr ⟨List.pairwise_append.mpr ⟨n1, d4, fun x hx y hy e => ?_⟩, fun q hq => ?_⟩)⟩
  · rcases List.mem_append.mp hq with h | h
    · exact P_iff.mp hP1 q h
    · obtain ⟨a1, a2⟩ := apart q h
      exact (hP2 q (List.mem_append_right _ h)).kept (hk q.1 a1 a2)
  · exact (apart y hy).2 (e ▸ n2 x hx)
  · rcases List.mem_append.mp hq with h | h
    · exact hF q.1 (n2 q h)
    · exact d2 q (List.mem_append_right _ h)
theorem subP {D : va_G} {cl : List vw_C} {Y Yc : List va_W} {ic : List Nat} {H : Heap} (hP : va_P D cl Y.flatten H) (hic : ic.map (fun i => Y[i]?) = Yc.map some) (hn : ic.Nodup) : va_P D cl Yc.flatten H :=
  P_iff.mpr fun q hq => P_iff.mp (P_perm (perm_split ic Yc Y hn hic) hP) q (List.mem_append_left _ hq)
theorem subD {A : Nat → Prop} {Y Yc : List va_W} {ic : List Nat} (hD : va_D A Y.flatten) (hic : ic.map (fun i => Y[i]?) = Yc.map some) (hn : ic.Nodup) : va_D A Yc.flatten := by
  obtain ⟨h1, h2⟩ := D_iff.mp (D_perm (perm_split ic Yc Y hn hic) hD)
  exact D_iff.mpr ⟨(List.pairwise_append.mp h1).1, fun q hq => h2 q (List.mem_append_left _ hq)⟩
theorem freeY {A0 : Nat → Prop} {Y Yc : List va_W} {ic : List Nat} {H0 H : Heap} {locs : List Loc} (hD : va_D A0 Y.flatten) (hS : va_S A0 H0 H locs) (hA : ∀ q, H0.size ≤ q → A0 q) (hic : ic.map (fun i => Y[i]?) = Yc.map some) (hn : ic.Nodup) : ∀ q, va_A Yc.flatten H.size q → A0 q := by
  intro q h
  rcases h with ⟨k, e, h⟩ | h
  · exact (D_iff.mp (subD hD hic hn)).2 (q, e) (List.mem_of_getElem? h)
  · exact hA q (Nat.le_trans hS.1 h)
-- a cell by segment and place
theorem fl_at : ∀ {Y : List va_W} {i : Nat} {g : va_W} {c : Nat × va_E}, Y[i]? = some g → c ∈ g → ∃ k : Nat, Y.flatten[k]? = some c := by
  intro Y i g c h hc
  exact List.mem_iff_getElem?.mp (List.mem_flatten.mpr ⟨g, List.mem_of_getElem? h, hc⟩)
theorem fl_set : ∀ (Y : List va_W) (i q : Nat) (g : va_W) (c : Nat × va_E), Y[i]? = some g → g[q]? = some c → ∃ k : Nat, Y.flatten[k]? = some c ∧ ∀ x, Y.flatten.set k x = (Y.set i (g.set q x)).flatten
  | [], i, q, g, c, h, _ => by simp at h
  | y :: ys, 0, q, g, c, h, hq => by
    have e : y = g := by simpa using h
    subst e
    have hl := (List.getElem?_eq_some_iff.mp hq).1
    refine ⟨q, ?_, fun x => ?_⟩
    · rw [List.flatten_cons, List.getElem?_append_left hl, hq]
    · rw [List.flatten_cons, List.set_append_left _ _ hl]
      rfl
  | y :: ys, i + 1, q, g, c, h, hq => by
    obtain ⟨k, h1, h2⟩ := fl_set ys i q g c (by simpa using h) hq
    refine ⟨y.length + k, ?_, fun x => ?_⟩
    · rw [List.flatten_cons, List.getElem?_append_right (Nat.le_add_right _ _), Nat.add_sub_cancel_left, h1]
    · rw [List.flatten_cons, List.set_append_right _ _ (Nat.le_add_right _ _), Nat.add_sub_cancel_left, h2]
      rfl
