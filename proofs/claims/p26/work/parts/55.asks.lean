/-! PURE: what is asked; people in their order -/
theorem cnt_0 {N : Nat} {Vp : Pd} {Vn : St} {Vh : Hb} {k0 k1 k2 k3 k4 k5 : St} : f_X5_count N Vp Vn Vh k0 k1 k2 k3 k4 k5 0 = some Vn.2.2.2.2.2.2.2.2.2.2.1 := by
  unfold f_X5_count f_X4_number; rw [if_neg (by decide), if_neg (by decide), if_pos rfl, Option.bind_some]
theorem cnt_1 {N : Nat} {Vp : Pd} {Vn : St} {Vh : Hb} {k0 k1 k2 k3 k4 k5 : St} : f_X5_count N Vp Vn Vh k0 k1 k2 k3 k4 k5 1 = some Vn.2.2.2.2.2.2.2.1 := by
  unfold f_X5_count f_X4_number; rw [if_neg (by decide), if_neg (by decide), if_neg (by decide), if_pos rfl, Option.bind_some]
theorem cnt_2 {N : Nat} {Vp : Pd} {Vn : St} {Vh : Hb} {k0 k1 k2 k3 k4 k5 : St} : f_X5_count N Vp Vn Vh k0 k1 k2 k3 k4 k5 2 = f_X4_totalWeight N Vn := by
  unfold f_X5_count f_X4_number; rw [if_neg (by decide), if_neg (by decide), if_neg (by decide), if_neg (by decide), if_pos rfl]
  cases f_X4_totalWeight N Vn <;> rfl
theorem cnt_3 {N : Nat} {Vp : Pd} {Vn : St} {Vh : Hb} {k0 k1 k2 k3 k4 k5 : St} : f_X5_count N Vp Vn Vh k0 k1 k2 k3 k4 k5 3 = some Vn.2.2.2.2.2.2.2.2.2.2.2.1 := by
  unfold f_X5_count f_X4_number; rw [if_neg (by decide), if_neg (by decide), if_neg (by decide), if_neg (by decide), if_neg (by decide), if_pos rfl, Option.bind_some]
theorem cnt_4 {N : Nat} {Vp : Pd} {Vn : St} {Vh : Hb} {k0 k1 k2 k3 k4 k5 : St} : f_X5_count N Vp Vn Vh k0 k1 k2 k3 k4 k5 4 = some Vn.2.2.2.2.2.2.2.2.2.1 := by
  unfold f_X5_count f_X4_number; rw [if_neg (by decide), if_neg (by decide), if_neg (by decide), if_neg (by decide), if_neg (by decide), if_neg (by decide), if_pos rfl, Option.bind_some]
theorem cnt_5 {N : Nat} {Vp : Pd} {Vn : St} {Vh : Hb} {k0 k1 k2 k3 k4 k5 : St} : f_X5_count N Vp Vn Vh k0 k1 k2 k3 k4 k5 5 = some Vn.2.2.2.2.2.2.2.2.2.2.2.2.1 := by
  unfold f_X5_count f_X4_number; rw [if_neg (by decide), if_neg (by decide), if_neg (by decide), if_neg (by decide), if_neg (by decide), if_neg (by decide), if_neg (by decide), if_pos rfl, Option.bind_some]
theorem cnt_7 {N : Nat} {Vp : Pd} {Vn : St} {Vh : Hb} {k0 k1 k2 k3 k4 k5 : St} : f_X5_count N Vp Vn Vh k0 k1 k2 k3 k4 k5 7 = some Vn.2.2.2.2.2.2.2.2.2.2.2.2.2.2.1 := by
  unfold f_X5_count f_X4_number; rw [if_neg (by decide), if_neg (by decide), if_neg (by decide), if_neg (by decide), if_neg (by decide), if_neg (by decide), if_neg (by decide), if_neg (by decide), if_neg (by decide), if_pos rfl, Option.bind_some]
theorem cnt_8 {N : Nat} {Vp : Pd} {Vn : St} {Vh : Hb} {k0 k1 k2 k3 k4 k5 : St} : f_X5_count N Vp Vn Vh k0 k1 k2 k3 k4 k5 8 = some Vn.2.2.2.2.2.2.2.2.2.2.2.2.2.2.2.1 := by
  unfold f_X5_count f_X4_number; rw [if_neg (by decide), if_neg (by decide), if_neg (by decide), if_neg (by decide), if_neg (by decide), if_neg (by decide), if_neg (by decide), if_neg (by decide), if_neg (by decide), if_neg (by decide), if_pos rfl, Option.bind_some]
theorem cnt_9 {N : Nat} {Vp : Pd} {Vn : St} {Vh : Hb} {k0 k1 k2 k3 k4 k5 : St} : f_X5_count N Vp Vn Vh k0 k1 k2 k3 k4 k5 9 = some Vn.2.2.2.2.2.2.2.2.2.2.2.2.2.2.2.2.1 := by
  unfold f_X5_count f_X4_number; rw [if_neg (by decide), if_neg (by decide), if_neg (by decide), if_neg (by decide), if_neg (by decide), if_neg (by decide), if_neg (by decide), if_neg (by decide), if_neg (by decide), if_neg (by decide), if_neg (by decide), if_pos rfl, Option.bind_some]
theorem cnt_10 {N : Nat} {Vp : Pd} {Vn : St} {Vh : Hb} {k0 k1 k2 k3 k4 k5 : St} : f_X5_count N Vp Vn Vh k0 k1 k2 k3 k4 k5 10 = some Vn.2.2.2.2.2.2.2.2.2.2.2.2.2.2.2.2.2 := by
  unfold f_X5_count f_X4_number; rw [if_neg (by decide), if_neg (by decide), if_neg (by decide), if_neg (by decide), if_neg (by decide), if_neg (by decide), if_neg (by decide), if_neg (by decide), if_neg (by decide), if_neg (by decide), if_neg (by decide), if_neg (by decide), if_pos rfl, Option.bind_some]
theorem cnt_18 {N : Nat} {Vp : Pd} {Vn : St} {Vh : Hb} {k0 k1 k2 k3 k4 k5 : St} : f_X5_count N Vp Vn Vh k0 k1 k2 k3 k4 k5 18 = some Vp.2 := by
  unfold f_X5_count; rw [if_pos rfl]
theorem cnt_2' {N T : Nat} {Vp : Pd} {Vn : St} {Vh : Hb} {k0 k1 k2 k3 k4 k5 : St} {A : AS} (hN : 5000 ≤ N) (h : Rel Vn A) (hA : WA T A) : f_X5_count N Vp Vn Vh k0 k1 k2 k3 k4 k5 2 = some (nI (tot A.2.2.1)) := by
  rw [cnt_2]; exact total_ok hN h.2.2.1 hA.2.1 (fun i p hp => (h.2.2.2.1 i p hp).2.1)
theorem of_ok {T i : Nat} {Vn : St} {A : AS} {p : Pp} (h : Rel Vn A) (hA : WA T A) (hi : A.2.2.1[i]? = some p) : f_X5_of Vn (nI i) 0 = some (nI p.1) ∧ f_X5_of Vn (nI i) 1 = some (nI p.2.1) ∧ f_X5_of Vn (nI i) 2 = some (nI (A.2.2.2.2.2.1 - p.2.2)) := by
  have hl := hA.2.1
  have hil : i < A.2.2.1.length := by
    rcases Nat.lt_or_ge i A.2.2.1.length with q | q
    · exact q
    · rw [List.getElem?_eq_none q] at hi; cases hi
  obtain ⟨q1, q2, q3⟩ := h.2.2.2.1 i p hi
  have hm := hA.2.2.1 p (List.mem_of_getElem? hi)
  have c1 : ¬ nI i < 0 := nI_pos (by omega)
  have c2 : ¬ Vn.2.2.2.2.2.2.2.1 ≤ nI i := by rw [h.2.2.1]; exact nI_ge hil (by omega)
  have c3 : nI i < (20 : Int32) := nI_lt (b := 20) (by omega) (by decide)
  unfold f_X5_of
  rw [if_neg c1, if_neg c2, if_pos c3, if_neg c1, if_neg c2, if_pos c3, if_neg c1, if_neg c2, if_pos c3]
  refine ⟨?_, ?_, ?_⟩
  · rw [if_pos rfl, ix_nI (show i < 20 by omega) (by decide), cl i (by omega), q1]
  · rw [if_neg (by decide), if_pos rfl, ix_nI (show i < 20 by omega) (by decide), cl i (by omega), q2]
  · rw [if_neg (by decide), if_neg (by decide), if_pos rfl, ix_nI (show i < 20 by omega) (by decide), cl i (by omega), q3, h.2.2.2.2.2.2.1, pk_sub hm.2.2.2]
theorem of_end {T : Nat} {Vn : St} {A : AS} (h : Rel Vn A) (hA : WA T A) : f_X5_of Vn (nI A.2.2.1.length) 0 = some (-1) := by
  have hl := hA.2.1
  unfold f_X5_of b_X5_of_21
  rw [if_neg (nI_pos (by omega)), if_pos (by rw [h.2.2.1]; exact nI_le (Nat.le_refl _) (by omega))]
theorem pw_get {α : Type} {R : α → α → Prop} {l : List α} (h : l.Pairwise R) {i j : Nat} {a b : α} (hij : i < j) (ha : l[i]? = some a) (hb : l[j]? = some b) : R a b := by
  obtain ⟨li, ei⟩ := List.getElem?_eq_some_iff.mp ha
  obtain ⟨lj, ej⟩ := List.getElem?_eq_some_iff.mp hb
  have := List.pairwise_iff_getElem.mp h i j li lj hij
  rwa [ei, ej] at this
def laF (ps : List Pp) : Nat → Nat
  | 0 => 1000
  | w + 1 => (ps[w]?.getD (0, 0, 0)).1
def siF (ps : List Pp) (t : Nat) : Nat → Nat
  | 0 => 100000
  | w + 1 => t - (ps[w]?.getD (0, 0, 0)).2.2
theorem people_ok {N T : Nat} {Vp : Pd} {Vn : St} {Vh : Hb} {k0 k1 k2 k3 k4 k5 : St} {A : AS} (hN : 5000 ≤ N) (h : Rel Vn A) (hA : WA T A) (hT : T ≤ 100000) : f_L_people N Vp Vn Vh k0 k1 k2 k3 k4 k5 = some 1 := by
  have hl := hA.2.1
  have htk := hA.2.2.2.2.2.2.2.2.1
  unfold f_L_people
  refine lp_c (body := b_L_people_12 N Vp Vn Vh k0 k1 k2 k3 k4 k5) (fun k => (nI (tot (A.2.2.1.take k)), nI (laF A.2.2.1 k), nI (siF A.2.2.1 A.2.2.2.2.2.1 k), nI k)) A.2.2.1.length 1 (fun k hk K => ?_) (fun K => ?_) (by omega)
  · obtain ⟨p, hp⟩ := get_of hk
    obtain ⟨o1, o2, o3⟩ := of_ok h hA hp
    have hm := hA.2.2.1 p (List.mem_of_getElem? hp)
    have la : p.1 ≤ laF A.2.2.1 k := by
      cases k with
      | zero => show p.1 ≤ 1000; omega
      | succ w =>
        obtain ⟨q, hq⟩ := get_of (show w < A.2.2.1.length by omega)
        have := pw_get hA.2.2.2.2.2.2.2.2.2.1 (Nat.lt_succ_self w) hq hp
        show p.1 ≤ (A.2.2.1[w]?.getD (0, 0, 0)).1
        rw [hq]; exact this.1
    have si : A.2.2.2.2.2.1 - p.2.2 ≤ siF A.2.2.1 A.2.2.2.2.2.1 k ∧ siF A.2.2.1 A.2.2.2.2.2.1 k ≤ 100000 := by
      cases k with
      | zero => show A.2.2.2.2.2.1 - p.2.2 ≤ 100000 ∧ 100000 ≤ 100000; omega
      | succ w =>
        obtain ⟨q, hq⟩ := get_of (show w < A.2.2.1.length by omega)
        have := pw_get hA.2.2.2.2.2.2.2.2.2.1 (Nat.lt_succ_self w) hq hp
        show A.2.2.2.2.2.1 - p.2.2 ≤ A.2.2.2.2.2.1 - (A.2.2.1[w]?.getD (0, 0, 0)).2.2 ∧ A.2.2.2.2.2.1 - (A.2.2.1[w]?.getD (0, 0, 0)).2.2 ≤ 100000
        rw [hq]
        show A.2.2.2.2.2.1 - p.2.2 ≤ A.2.2.2.2.2.1 - q.2.2 ∧ A.2.2.2.2.2.1 - q.2.2 ≤ 100000
        have := this.2
        omega
    have lab : laF A.2.2.1 k ≤ 1000 := by
      cases k with
      | zero => exact Nat.le_refl _
      | succ w =>
        obtain ⟨q, hq⟩ := get_of (show w < A.2.2.1.length by omega)
        show (A.2.2.1[w]?.getD (0, 0, 0)).1 ≤ 1000
        rw [hq]
        exact Nat.le_of_lt (hA.2.2.1 q (List.mem_of_getElem? hq)).1
    unfold b_L_people_12
    dsimp only
    rw [cnt_1, Option.bind_some, if_neg (show ¬ Vn.2.2.2.2.2.2.2.1 ≤ nI k by rw [h.2.2.1]; exact nI_ge hk (by omega)), o1, Option.bind_some, if_neg (nI_pos (by omega)), if_neg (nI_nlt la (by omega)), if_neg (show ¬ (999 : Int32) < nI p.1 from nI_nlt (a := 999) (by omega) (by decide)), o3, Option.bind_some, if_neg (nI_nlt si.1 (by omega)), Option.bind_some, if_pos (nI_pos' (by omega)), Option.bind_some, o2, Option.bind_some, nI_add, nI_1, take_s hp, tot_app]
    show K (nI (tot (A.2.2.1.take k) + p.2.1), nI p.1, nI (A.2.2.2.2.2.1 - p.2.2), nI (k + 1)) = K (nI (tot (A.2.2.1.take k) + (p.2.1 + 0)), nI (A.2.2.1[k]?.getD (0, 0, 0)).1, nI (A.2.2.2.2.2.1 - (A.2.2.1[k]?.getD (0, 0, 0)).2.2), nI (k + 1))
    rw [hp, Nat.add_zero]; rfl
  · unfold b_L_people_12
    dsimp only
    have hpe := h.2.2.1
    rw [cnt_1, Option.bind_some, if_pos (show Vn.2.2.2.2.2.2.2.1 ≤ nI A.2.2.1.length by rw [hpe]; exact nI_le (Nat.le_refl _) (by omega)), cnt_2' hN h hA, Option.bind_some, List.take_length, if_pos rfl, Option.bind_some, show f_X5_of Vn Vn.2.2.2.2.2.2.2.1 0 = some (-1) by rw [hpe]; exact of_end h hA, Option.bind_some, if_pos rfl, Option.bind_some, cnt_8, Option.bind_some]
    unfold b_L_people_144 b_L_people_148 b_L_people_149
    rw [zb_ok (.inr rfl)]
    by_cases c : Vn.2.2.2.2.2.2.2.1 = 0
    · rw [if_pos c]
    · rw [if_neg c]
      by_cases d : Vn.2.2.2.2.2.2.2.2.2.2.2.2.2.2.2.1 = 0
      · rw [if_pos d]
      · rw [if_neg d]
        have hne : A.2.2.2.2.2.2.2.1 ≠ 0 := fun z => d (by rw [h.2.2.2.2.2.2.2.2.1, z]; rfl)
        have hz := hA.2.2.2.2.2.2.2.2.2.2 hne
        have : laF A.2.2.1 A.2.2.1.length = 0 := by
          cases hk : A.2.2.1.length with
          | zero => exact absurd (by rw [hpe, hk]; rfl) c
          | succ w =>
            obtain ⟨q, hq⟩ := get_of (show w < A.2.2.1.length by omega)
            show (A.2.2.1[w]?.getD (0, 0, 0)).1 = 0
            rw [hq]; exact hz q (List.mem_of_getElem? hq)
        rw [if_pos (show nI (laF A.2.2.1 A.2.2.1.length) = 0 by rw [this]; rfl)]
/-! emptyIn -/
theorem it_sn (b : Bool) : ∀ (n : Nat) (A : AS), (itA n b A).2.2.2.1 = A.2.2.2.1
  | 0, _ => rfl
  | n + 1, A => it_sn b n (tickA A b)
theorem it_len (b : Bool) : ∀ (n : Nat) (A : AS), (itA n b A).2.2.1.length ≤ A.2.2.1.length
  | 0, _ => Nat.le_refl _
  | n + 1, A => Nat.le_trans (it_len b n (tickA A b)) (fm_len _ _)
theorem it_of (b : Bool) : ∀ (n : Nat) (A : AS), (itA n b A).2.2.2.2.2.2.2.2.1 = A.2.2.2.2.2.2.2.2.1 + nI (A.2.2.1.length - (itA n b A).2.2.1.length)
  | 0, A => by
    show A.2.2.2.2.2.2.2.2.1 = A.2.2.2.2.2.2.2.2.1 + nI (A.2.2.1.length - A.2.2.1.length)
    rw [Nat.sub_self, show nI 0 = 0 from rfl, Int32.add_zero]
  | n + 1, A => by
    have h1 : (itA (n + 1) b A).2.2.2.2.2.2.2.2.1 = (tickA A b).2.2.2.2.2.2.2.2.1 + nI ((tickA A b).2.2.1.length - (itA n b (tickA A b)).2.2.1.length) := it_of b n (tickA A b)
    have h2 := it_len b n (tickA A b)
    have h3 : (tickA A b).2.2.1.length ≤ A.2.2.1.length := fm_len _ _
    rw [h1]
    show A.2.2.2.2.2.2.2.2.1 + nI (A.2.2.1.length - (tickA A b).2.2.1.length) + nI ((tickA A b).2.2.1.length - (itA n b (tickA A b)).2.2.1.length) = A.2.2.2.2.2.2.2.2.1 + nI (A.2.2.1.length - (itA n b (tickA A b)).2.2.1.length)
    rw [Int32.add_assoc, nI_add]
    congr 2
    omega
theorem emptyIn_ok {N T : Nat} {Vn Vm : St} {A : AS} {R : Ru} {v : Nat → En} {nn : Nat} {lm : Int32} (hN : 5000 ≤ N) (h : Rel Vn A) (hA : WA T A) (hT : T < 2 ^ 28) (hM : Mean R v nn lm) :
    ∃ (m : Nat) (V' : St), m ≤ 3000 ∧ (∀ i, i < m → (itA i (decide ((v A.2.2.2.1).1 = 1)) A).2.2.1.length ≠ 0) ∧ f_X5_emptyIn N Vn Vm R = some (if (itA m (decide ((v A.2.2.2.1).1 = 1)) A).2.2.1.length = 0 then nI m else -6, V') := by
  have hs := hA.2.2.2.1
  obtain ⟨C, e1, -⟩ := copy_ok Vm Vn
  obtain ⟨hC, -, -⟩ := Rel_copy h hA.2.1 e1
  have eh := ruleHolds_ok hN hM hs hC.2.2.2.2.1
  have hb : (v A.2.2.2.1).1 = if decide ((v A.2.2.2.1).1 = 1) then 1 else 0 := by
    rcases (hM.2.2.2.2 N hN A.2.2.2.1 hs).1 with z | z
    · rw [z]; decide
    · rw [z]; decide
  generalize decide ((v A.2.2.2.1).1 = 1) = b at *
  obtain ⟨o, f1, m, V', f2, f3, f4⟩ := lp_m (body := b_X4_ticksUntilEmpty_7 N C R) (P := fun k s => ∃ (i : Nat) (W : St), k + i = 3000 ∧ s = (W, (v A.2.2.2.1).1, nI i) ∧ Rel W (itA i b A) ∧ ∀ j, j < i → (itA j b A).2.2.1.length ≠ 0)
    (Q := fun o => ∃ (m : Nat) (V' : St), m ≤ 3000 ∧ (∀ i, i < m → (itA i b A).2.2.1.length ≠ 0) ∧ o = (if (itA m b A).2.2.1.length = 0 then nI m else -6, V')) (by
    rintro k s ⟨i, W, hk, rfl, hW, hj⟩
    have hWA := WA_it (b := b) i hA
    have hl := hWA.2.1
    have hpe := hW.2.2.1
    have e40 : b_X4_ticksUntilEmpty_40 N C R (W, nI i) = some (if (itA i b A).2.2.1.length = 0 then nI i else -6, W) := by
      unfold b_X4_ticksUntilEmpty_40 b_X4_ticksUntilEmpty_53
      by_cases c : (itA i b A).2.2.1.length = 0
      · refine (if_pos (show W.2.2.2.2.2.2.2.1 = 0 by rw [hpe, c]; rfl)).trans ?_
        rw [if_pos c]
      · refine (if_neg (show ¬ W.2.2.2.2.2.2.2.1 = 0 by rw [hpe]; exact nI_ne0 (by omega) (by omega))).trans ?_
        rw [if_neg c]
    have e0 : ∀ K, b_X4_ticksUntilEmpty_7 N C R K (W, (v A.2.2.2.1).1, nI i) = (if (3000 : Int32) ≤ nI i then b_X4_ticksUntilEmpty_40 N C R (W, nI i) else (if W.2.2.2.2.2.2.2.1 ≤ 0 then b_X4_ticksUntilEmpty_40 N C R (W, nI i) else (if W.2.2.2.2.2.2.2.2.2.1 = (2 : Int32) then b_X4_ticksUntilEmpty_40 N C R (W, nI i) else ((f_X4_passTick N W (v A.2.2.2.1).1).bind fun o5 => K (o5, (v A.2.2.2.1).1, (nI i + (1 : Int32))))))) := fun K => rfl
    by_cases c1 : (3000 : Int32) ≤ nI i
    · exact .inl ⟨_, fun K => by rw [e0, if_pos c1]; exact e40, i, W, by omega, hj, rfl⟩
    · by_cases c2 : W.2.2.2.2.2.2.2.1 ≤ 0
      · exact .inl ⟨_, fun K => by rw [e0, if_neg c1, if_pos c2]; exact e40, i, W, by omega, hj, rfl⟩
      · by_cases c3 : W.2.2.2.2.2.2.2.2.2.1 = (2 : Int32)
        · exact .inl ⟨_, fun K => by rw [e0, if_neg c1, if_neg c2, if_pos c3]; exact e40, i, W, by omega, hj, rfl⟩
        · have hi : i < 3000 := by
            rcases Nat.lt_or_ge i 3000 with q | q
            · exact q
            · exact absurd (show (3000 : Int32) ≤ nI i from nI_le (a := 3000) q (by omega)) c1
          obtain ⟨W2, t1, t2, t3, t4⟩ := tick_ok (b := b) hN hW hWA (by omega) hb
          refine .inr ⟨k - 1, (W2, (v A.2.2.2.1).1, nI (i + 1)), by omega, ⟨i + 1, W2, by omega, rfl, by rw [itA_s]; exact t2, fun j hj' => ?_⟩, fun K => ?_⟩
          · by_cases q : j = i
            · rw [q]
              intro z
              rw [hpe, z] at c2
              exact c2 (by decide)
            · exact hj j (by omega)
          · rw [e0, if_neg c1, if_neg c2, if_neg c3, t1, Option.bind_some, nI_1]) N 3000 (C, (v A.2.2.2.1).1, (0 : Int32)) (by omega) ⟨0, C, rfl, rfl, hC, fun j hj => absurd hj (Nat.not_lt_zero _)⟩
  refine ⟨m, V', f2, f3, ?_⟩
  unfold f_X5_emptyIn f_X4_ticksUntilEmpty
  rw [e1, Option.bind_some, eh, Option.bind_some, f1, Option.bind_some, f4]
