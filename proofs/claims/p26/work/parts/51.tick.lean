/-! PURE: the stairs as numbers and a list of people; one tick -/
abbrev Pp : Type := Nat × Nat × Nat
abbrev AS : Type := (Nat → Nat) × Fn × List Pp × Nat × Nat × Nat × Nat × Nat × Int32 × Int32
def tot : List Pp → Nat
  | [] => 0
  | p :: ps => p.2.1 + tot ps
theorem tot_app : ∀ (a b : List Pp), tot (a ++ b) = tot a + tot b
  | [], b => by show tot b = 0 + tot b; omega
  | p :: a, b => by
    show p.2.1 + tot (a ++ b) = p.2.1 + tot a + tot b
    rw [tot_app a b]; omega
theorem tot_le : ∀ (a : List Pp), (∀ p, p ∈ a → p.2.1 ≤ 200) → tot a ≤ 200 * a.length
  | [], _ => Nat.le_refl _
  | p :: a, h => by
    have h1 := tot_le a (fun q hq => h q (List.mem_cons_of_mem _ hq))
    have h2 := h p List.mem_cons_self
    show p.2.1 + tot a ≤ 200 * (a.length + 1)
    omega
theorem take_s {α : Type} {l : List α} {k : Nat} {p : α} (h : l[k]? = some p) : l.take (k + 1) = l.take k ++ [p] := by
  rw [List.take_succ, h]; rfl
theorem get_of {α : Type} {l : List α} {k : Nat} (h : k < l.length) : ∃ p, l[k]? = some p := ⟨l[k], List.getElem?_eq_getElem h⟩
def Row (V : St) (i : Nat) (p : Pp) : Prop := V.2.1 i = nI p.1 ∧ V.2.2.1 i = nI p.2.1 ∧ V.2.2.2.1 i = nI p.2.2
def Rel (V : St) (A : AS) : Prop :=
  (∀ j, j < 7 → V.1 j = nI (A.1 j)) ∧ (∀ j, j < 4 → V.2.2.2.2.1 j = A.2.1 j) ∧ V.2.2.2.2.2.2.2.1 = nI A.2.2.1.length ∧ (∀ i p, A.2.2.1[i]? = some p → Row V i p) ∧
  V.2.2.2.2.2.2.2.2.1 = nI A.2.2.2.1 ∧ V.2.2.2.2.2.2.2.2.2.1 = nI A.2.2.2.2.1 ∧ V.2.2.2.2.2.2.2.2.2.2.1 = nI A.2.2.2.2.2.1 ∧ V.2.2.2.2.2.2.2.2.2.2.2.1 = nI A.2.2.2.2.2.2.1 ∧ V.2.2.2.2.2.2.2.2.2.2.2.2.2.2.2.1 = nI A.2.2.2.2.2.2.2.1 ∧ V.2.2.2.2.2.2.2.2.2.2.2.2.1 = A.2.2.2.2.2.2.2.2.1 ∧ V.2.2.2.2.2.2.2.2.2.2.2.2.2.2.2.2.1 = A.2.2.2.2.2.2.2.2.2 ∧ ∃ g, g ≤ 30 ∧ V.2.2.2.2.2.2.2.2.2.2.2.2.2.2.2.2.2 = nI g
def WA (T : Nat) (A : AS) : Prop :=
  (A.1 0 ≤ 90 ∧ A.1 1 ≤ 90 ∧ 1 ≤ A.1 2 ∧ A.1 2 ≤ 30 ∧ A.1 3 ≤ 99 ∧ A.1 4 ≤ 99 ∧ 1 ≤ A.1 5 ∧ A.1 5 ≤ 999 ∧ A.1 6 ≤ 9999) ∧ A.2.2.1.length ≤ 20 ∧ (∀ p, p ∈ A.2.2.1 → p.1 < 1000 ∧ 1 ≤ p.2.1 ∧ p.2.1 ≤ 200 ∧ p.2.2 ≤ A.2.2.2.2.2.1) ∧
  A.2.2.2.1 < 256 ∧ A.2.2.2.2.1 ≤ 2 ∧ A.2.2.2.2.2.2.1 ≤ 90 ∧ (A.2.2.2.2.1 = 2 → A.2.2.2.2.2.2.1 = 0) ∧ A.2.2.2.2.2.2.2.1 ≤ A.2.2.2.2.2.1 ∧ A.2.2.2.2.2.1 ≤ T ∧ A.2.2.1.Pairwise (fun a b => b.1 ≤ a.1 ∧ a.2.2 ≤ b.2.2) ∧ (A.2.2.2.2.2.2.2.1 ≠ 0 → ∀ p, p ∈ A.2.2.1 → p.1 = 0)
abbrev dbt (σ : Nat → Nat) (d : Fn) : Prop := ¬ d 0 ≤ nI (σ 4) ∨ ¬ d 1 ≤ nI (σ 4) ∨ ¬ d 2 ≤ nI (σ 4) ∨ ¬ d 3 ≤ nI (σ 4)
def wantA (σ : Nat → Nat) (d : Fn) (ps : List Pp) (m e : Nat) : Nat := if m ≠ 0 then 0 else if (ps.length = 0 ∧ σ 3 < e + 1) ∨ dbt σ d then σ 1 else if σ 1 < σ 0 - tot ps / σ 5 then σ 0 - tot ps / σ 5 else σ 1
def rmpA (σ : Nat → Nat) (ps : List Pp) : Nat := if tot ps ≤ σ 6 then σ 2 else (σ 2 + 1) / 2
def spd (v w c : Nat) : Nat := if v + c < w then v + c else if w + c < v then v - c else w
def advP (v : Nat) (p : Pp) : Option Pp := if p.1 + v < 1000 then some (p.1 + v, p.2) else none
def mA (A : AS) (h : Bool) : Nat := if A.2.2.2.2.1 = 0 ∧ h = true then 1 else A.2.2.2.2.1
def vA (A : AS) (h : Bool) : Nat := spd A.2.2.2.2.2.2.1 (wantA A.1 (dcl A.2.1 A.2.2.2.1 4) A.2.2.1 (mA A h) A.2.2.2.2.2.2.2.1) (rmpA A.1 A.2.2.1)
def pA (A : AS) (h : Bool) : List Pp := A.2.2.1.filterMap (advP (vA A h))
def tickA (A : AS) (h : Bool) : AS := (A.1, dcl A.2.1 A.2.2.2.1 4, pA A h, A.2.2.2.1, if mA A h = 1 ∧ vA A h = 0 then 2 else mA A h, A.2.2.2.2.2.1 + 1, vA A h, if (pA A h).length = 0 then A.2.2.2.2.2.2.2.1 + 1 else 0, A.2.2.2.2.2.2.2.2.1 + nI (A.2.2.1.length - (pA A h).length), A.2.2.2.2.2.2.2.2.2 + nI (vA A h))
/-! the load -/
theorem total_ok {N : Nat} {V : St} {ps : List Pp} (hN : 5000 ≤ N) (e1 : V.2.2.2.2.2.2.2.1 = nI ps.length) (hl : ps.length ≤ 20) (hr : ∀ i p, ps[i]? = some p → V.2.2.1 i = nI p.2.1) : f_X4_totalWeight N V = some (nI (tot ps)) := by
  unfold f_X4_totalWeight
  have h0 := lp_c (body := b_X4_totalWeight_4 N V) (fun k => (nI (tot (ps.take k)), nI k)) ps.length (nI (tot ps)) (fun k hk K => ?_) (fun K => ?_) (N := N) (by omega)
  · exact h0
  · obtain ⟨p, hp⟩ := get_of hk
    unfold b_X4_totalWeight_4
    dsimp only
    rw [e1, if_neg (nI_ge hk (by omega)), if_neg (show ¬ (20 : Int32) ≤ nI k from nI_ge (b := 20) (by omega) (by decide)), ix_nI (show k < 20 by omega) (by decide), cl k (by omega), hr k p hp, nI_add, nI_1, take_s hp, tot_app]
    rfl
  · unfold b_X4_totalWeight_4 b_X4_totalWeight_33
    dsimp only
    rw [e1, if_pos (nI_le (Nat.le_refl _) (by omega)), List.take_length]
/-! the wanted speed -/
theorem wanted_ok {N : Nat} {V : St} {σ : Nat → Nat} {d : Fn} {ps : List Pp} {m e : Nat} (hN : 5000 ≤ N) (hs : ∀ j, j < 7 → V.1 j = nI (σ j)) (hd : ∀ j, j < 4 → V.2.2.2.2.1 j = d j) (ep : V.2.2.2.2.2.2.2.1 = nI ps.length) (em : V.2.2.2.2.2.2.2.2.2.1 = nI m) (ee : V.2.2.2.2.2.2.2.2.2.2.2.2.2.2.2.1 = nI e) (hl : ps.length ≤ 20) (hw : tot ps ≤ 4000)
    (b : σ 0 ≤ 90 ∧ σ 1 ≤ 90 ∧ σ 3 ≤ 99 ∧ 1 ≤ σ 5 ∧ σ 5 ≤ 999) (hm : m ≤ 2) (he : e + 1 < 2 ^ 31) : f_X4_wantedSpeed N V (nI (tot ps)) = some (nI (wantA σ d ps m e)) := by
  obtain ⟨x, k1, k2⟩ := q_doubt hN V
  have hx : (x = 0 ∧ ¬ dbt σ d) ∨ (x = 1 ∧ dbt σ d) := by
    rw [hs 4 (by omega)] at k2
    rcases k2 with ⟨rfl, j, hj, hn⟩ | ⟨rfl, ha⟩
    · right
      rw [hd j hj] at hn
      refine ⟨rfl, ?_⟩
      have hc : j = 0 ∨ j = 1 ∨ j = 2 ∨ j = 3 := by omega
      rcases hc with rfl | rfl | rfl | rfl
      · exact .inl hn
      · exact .inr (.inl hn)
      · exact .inr (.inr (.inl hn))
      · exact .inr (.inr (.inr hn))
    · left
      refine ⟨rfl, fun z => ?_⟩
      rcases z with z | z | z | z
      · exact z (by rw [← hd 0 (by omega)]; exact ha 0 (by omega))
      · exact z (by rw [← hd 1 (by omega)]; exact ha 1 (by omega))
      · exact z (by rw [← hd 2 (by omega)]; exact ha 2 (by omega))
      · exact z (by rw [← hd 3 (by omega)]; exact ha 3 (by omega))
  unfold f_X4_wantedSpeed wantA
  rw [em]
  by_cases m0 : m = 0
  · subst m0
    rw [if_pos (show nI 0 = 0 from rfl), if_neg (show ¬ (0 ≠ 0) from fun z => z rfl), ep, ee, c_3, hs 3 (by omega), nI_1]
    have lo : ¬ (ps.length = 0 ∧ σ 3 < e + 1) → b_X4_wantedSpeed_36 N V (nI (tot ps)) 0 = some (nI (if (ps.length = 0 ∧ σ 3 < e + 1) ∨ dbt σ d then σ 1 else if σ 1 < σ 0 - tot ps / σ 5 then σ 0 - tot ps / σ 5 else σ 1)) := by
      intro hF
      unfold b_X4_wantedSpeed_36 b_X4_wantedSpeed_48
      rw [if_pos rfl, k1, Option.bind_some, c_1, c_5, c_0, hs 1 (by omega), hs 5 (by omega), hs 0 (by omega)]
      rcases hx with ⟨rfl, h2⟩ | ⟨rfl, h2⟩
      · rw [if_pos rfl, if_neg (show ¬ ((ps.length = 0 ∧ σ 3 < e + 1) ∨ dbt σ d) from fun z => z.elim hF h2)]
        have hv5 : (if (1 : Int32) < nI (σ 5) then nI (σ 5) else (1 : Int32)) = nI (σ 5) := by
          by_cases h1 : σ 5 = 1
          · rw [h1]; decide
          · rw [if_pos (show (1 : Int32) < nI (σ 5) from nI_lt (a := 1) (by omega) (by omega))]
        have hdiv : nI (tot ps) / nI (σ 5) = nI (tot ps / σ 5) := pk_div (by omega) (by omega) (by omega)
        have hq : tot ps / σ 5 ≤ 4000 := Nat.le_trans (Nat.div_le_self _ _) hw
        generalize tot ps / σ 5 = q at *
        unfold nz
        rw [hv5, if_neg (nI_ne0 (by omega) (by omega)), hdiv]
        have hX : (nI (σ 0) - nI q).toInt = (σ 0 : Int) - q := pk_sub_toInt (by omega) (by omega)
        by_cases c : σ 1 < σ 0 - q
        · rw [if_pos c, pk_sub (by omega), if_pos (nI_lt c (by omega))]
        · rw [if_neg c, if_neg (by rw [z_lt, hX, z_n (by omega)]; omega)]
      · rw [if_neg k10.mp, if_pos (show (ps.length = 0 ∧ σ 3 < e + 1) ∨ dbt σ d from .inr h2)]
    by_cases p0 : ps.length = 0
    · rw [if_pos (show nI ps.length = 0 by rw [p0]; rfl)]
      by_cases g : σ 3 < e + 1
      · rw [if_neg (nI_ge g he), if_pos (show (ps.length = 0 ∧ σ 3 < e + 1) ∨ dbt σ d from .inl ⟨p0, g⟩)]
        unfold b_X4_wantedSpeed_36 b_X4_wantedSpeed_48
        rw [if_neg k10.mp, c_1, hs 1 (by omega)]
      · rw [if_pos (nI_le (by omega) (by omega))]
        unfold b_X4_wantedSpeed_35
        exact lo (fun z => g z.2)
    · rw [if_neg (nI_ne0 (by omega) (by omega))]
      unfold b_X4_wantedSpeed_35
      exact lo (fun z => p0 z.1)
  · rw [if_neg (nI_ne0 (by omega) (by omega)), if_pos m0]; rfl
/-! the speed -/
theorem chg {a b c : Nat} (ha : a ≤ 90) (hb : b ≤ 90) (hc : 1 ≤ c ∧ c ≤ 30) : ∃ (r : Int32) (d : Nat), (if (-nI c) < (if (nI a - nI b) < nI c then (nI a - nI b) else nI c) then (if (nI a - nI b) < nI c then (nI a - nI b) else nI c) else (-nI c)) = r ∧ nI b + r = nI (spd b a c) ∧ d ≤ 30 ∧ (if 0 ≤ r then r else 0 - r) = nI d := by
  have h1 : (nI a - nI b).toInt = (a : Int) - b := pk_sub_toInt (by omega) (by omega)
  have h2 : (-nI c).toInt = -(c : Int) := neg_toInt (by omega)
  have h3 : (nI c).toInt = (c : Int) := z_n (by omega)
  unfold spd
  by_cases g1 : b + c < a
  · refine ⟨nI c, c, ?_, by rw [if_pos g1]; exact nI_add b c, hc.2, by rw [if_pos (nI_pos' (by omega))]⟩
    rw [if_neg (show ¬ nI a - nI b < nI c by rw [z_lt, h1, h3]; omega), if_pos (show -nI c < nI c by rw [z_lt, h2, h3]; omega)]
  · rw [if_neg g1]
    by_cases g2 : a + c < b
    · refine ⟨-nI c, c, ?_, ?_, hc.2, ?_⟩
      · rw [if_pos (show nI a - nI b < nI c by rw [z_lt, h1, h3]; omega), if_neg (show ¬ -nI c < nI a - nI b by rw [z_lt, h1, h2]; omega)]
      · rw [if_pos g2, ← Int32.sub_eq_add_neg]; exact pk_sub (by omega)
      · rw [if_neg (show ¬ 0 ≤ -nI c by rw [z_le, h2, z_0]; omega), Int32.zero_sub, Int32.neg_neg]
    · rw [if_neg g2]
      refine ⟨nI a - nI b, if b ≤ a then a - b else b - a, ?_, ?_, by split <;> omega, ?_⟩
      · by_cases g3 : a = b + c
        · have : nI a - nI b = nI c := by rw [pk_sub (by omega)]; congr 1; omega
          rw [this, if_neg (show ¬ nI c < nI c by rw [z_lt]; omega), if_pos (show -nI c < nI c by rw [z_lt, h2, h3]; omega)]
        · rw [if_pos (show nI a - nI b < nI c by rw [z_lt, h1, h3]; omega)]
          by_cases g4 : b = a + c
          · rw [if_neg (show ¬ -nI c < nI a - nI b by rw [z_lt, h1, h2]; omega)]
            exact Int32.toInt_inj.mp (by rw [h1, h2]; omega)
          · rw [if_pos (show -nI c < nI a - nI b by rw [z_lt, h1, h2]; omega)]
      · rw [Int32.add_comm, Int32.sub_add_cancel]
      · by_cases g5 : b ≤ a
        · rw [if_pos g5, if_pos (by rw [z_le, h1, z_0]; omega), pk_sub g5]
        · have : nI a - nI b = -nI (b - a) := Int32.toInt_inj.mp (by rw [h1, neg_toInt (by omega)]; omega)
          rw [if_neg g5, if_neg (by rw [z_le, h1, z_0]; omega), this, Int32.zero_sub, Int32.neg_neg]
theorem change_ok {V : St} {σ : Nat → Nat} {ps : List Pp} {v w g : Nat} (hs : ∀ j, j < 7 → V.1 j = nI (σ j)) (ev : V.2.2.2.2.2.2.2.2.2.2.2.1 = nI v) (hg : V.2.2.2.2.2.2.2.2.2.2.2.2.2.2.2.2.2 = nI g) (hg2 : g ≤ 30) (hv : v ≤ 90) (hw : w ≤ 90) (ht : tot ps ≤ 4000) (b : 1 ≤ σ 2 ∧ σ 2 ≤ 30 ∧ σ 6 ≤ 9999) :
    ∃ g', g' ≤ 30 ∧ f_X4_changeSpeed V (nI w) (nI (tot ps)) = some (V.1, V.2.1, V.2.2.1, V.2.2.2.1, V.2.2.2.2.1, V.2.2.2.2.2.1, V.2.2.2.2.2.2.1, V.2.2.2.2.2.2.2.1, V.2.2.2.2.2.2.2.2.1, V.2.2.2.2.2.2.2.2.2.1, V.2.2.2.2.2.2.2.2.2.2.1, nI (spd v w (rmpA σ ps)), V.2.2.2.2.2.2.2.2.2.2.2.2.1, V.2.2.2.2.2.2.2.2.2.2.2.2.2.1, V.2.2.2.2.2.2.2.2.2.2.2.2.2.2.1, V.2.2.2.2.2.2.2.2.2.2.2.2.2.2.2.1, V.2.2.2.2.2.2.2.2.2.2.2.2.2.2.2.2.1, nI g') := by
  have key : f_X4_changeSpeed V (nI w) (nI (tot ps)) = b_X4_changeSpeed_27 V (nI w) (nI (tot ps)) (nI (rmpA σ ps)) ∧ 1 ≤ rmpA σ ps ∧ rmpA σ ps ≤ 30 := by
    unfold f_X4_changeSpeed rmpA
    rw [c_6, c_2, hs 6 (by omega), hs 2 (by omega)]
    by_cases c : tot ps ≤ σ 6
    · rw [if_pos (nI_le c (by omega)), if_pos c]; exact ⟨rfl, b.1, b.2.1⟩
    · rw [if_neg (nI_ge (by omega) (by omega)), if_neg c, nI_1, show nI (σ 2 + 1) / (2 : Int32) = nI ((σ 2 + 1) / 2) from pk_div (d := 2) (by omega) (by omega) (by omega)]
      exact ⟨rfl, by omega, by omega⟩
  obtain ⟨k1, k2, k3⟩ := key
  obtain ⟨r, d, r1, r2, r3, r4⟩ := chg hw hv ⟨k2, k3⟩
  refine ⟨if g < d then d else g, by split <;> omega, ?_⟩
  rw [k1]
  unfold b_X4_changeSpeed_27
  rw [ev, hg, r1, r2, r4]
  by_cases c : g < d
  · rw [if_pos c, if_pos (nI_lt c (by omega))]
  · rw [if_neg c, if_neg (nI_nlt (by omega) (by omega))]
/-! the people are carried -/
theorem fm_len (v : Nat) : ∀ l : List Pp, (l.filterMap (advP v)).length ≤ l.length
  | [] => Nat.le_refl _
  | p :: l => by
    have := fm_len v l
    rw [List.filterMap_cons]
    split
    · simp only [List.length_cons]; omega
    · simp only [List.length_cons]; omega
theorem carry_ok {N : Nat} {V : St} {ps : List Pp} {v : Nat} (hN : 5000 ≤ N) (ep : V.2.2.2.2.2.2.2.1 = nI ps.length) (hl : ps.length ≤ 20) (hr : ∀ i p, ps[i]? = some p → Row V i p) (ev : V.2.2.2.2.2.2.2.2.2.2.2.1 = nI v) (hv : v ≤ 90) (hp : ∀ p, p ∈ ps → p.1 < 1000) :
    ∃ (pl we ca : Fn) (ow : Int32), f_X4_carryPeople N V = some (V.1, pl, we, ca, V.2.2.2.2.1, V.2.2.2.2.2.1, V.2.2.2.2.2.2.1, nI (ps.filterMap (advP v)).length, V.2.2.2.2.2.2.2.2.1, V.2.2.2.2.2.2.2.2.2.1, V.2.2.2.2.2.2.2.2.2.2.1, V.2.2.2.2.2.2.2.2.2.2.2.1, V.2.2.2.2.2.2.2.2.2.2.2.2.1 + nI (ps.length - (ps.filterMap (advP v)).length), ow, V.2.2.2.2.2.2.2.2.2.2.2.2.2.2.1, V.2.2.2.2.2.2.2.2.2.2.2.2.2.2.2.1, V.2.2.2.2.2.2.2.2.2.2.2.2.2.2.2.2.1 + nI v, V.2.2.2.2.2.2.2.2.2.2.2.2.2.2.2.2.2) ∧
      ∀ i p, (ps.filterMap (advP v))[i]? = some p → pl i = nI p.1 ∧ we i = nI p.2.1 ∧ ca i = nI p.2.2 := by
  obtain ⟨o, h1, pl, we, ca, ow, h2, h3⟩ := lp_m (body := b_X4_carryPeople_4 N V)
    (P := fun m s => ∃ (i : Nat) (pl we ca : Fn) (ow : Int32), m + i = ps.length ∧ s = ((V.1, pl, we, ca, V.2.2.2.2.1, V.2.2.2.2.2.1, V.2.2.2.2.2.2.1, V.2.2.2.2.2.2.2.1, V.2.2.2.2.2.2.2.2.1, V.2.2.2.2.2.2.2.2.2.1, V.2.2.2.2.2.2.2.2.2.2.1, V.2.2.2.2.2.2.2.2.2.2.2.1, V.2.2.2.2.2.2.2.2.2.2.2.2.1 + nI (i - ((ps.take i).filterMap (advP v)).length), ow, V.2.2.2.2.2.2.2.2.2.2.2.2.2.2.1, V.2.2.2.2.2.2.2.2.2.2.2.2.2.2.2.1, V.2.2.2.2.2.2.2.2.2.2.2.2.2.2.2.2.1, V.2.2.2.2.2.2.2.2.2.2.2.2.2.2.2.2.2), nI ((ps.take i).filterMap (advP v)).length, nI i) ∧ (∀ k p, ((ps.take i).filterMap (advP v))[k]? = some p → pl k = nI p.1 ∧ we k = nI p.2.1 ∧ ca k = nI p.2.2) ∧ ∀ k p, i ≤ k → ps[k]? = some p → pl k = nI p.1 ∧ we k = nI p.2.1 ∧ ca k = nI p.2.2)
    (Q := fun o => ∃ (pl we ca : Fn) (ow : Int32), o = (V.1, pl, we, ca, V.2.2.2.2.1, V.2.2.2.2.2.1, V.2.2.2.2.2.2.1, nI (ps.filterMap (advP v)).length, V.2.2.2.2.2.2.2.2.1, V.2.2.2.2.2.2.2.2.2.1, V.2.2.2.2.2.2.2.2.2.2.1, V.2.2.2.2.2.2.2.2.2.2.2.1, V.2.2.2.2.2.2.2.2.2.2.2.2.1 + nI (ps.length - (ps.filterMap (advP v)).length), ow, V.2.2.2.2.2.2.2.2.2.2.2.2.2.2.1, V.2.2.2.2.2.2.2.2.2.2.2.2.2.2.2.1, V.2.2.2.2.2.2.2.2.2.2.2.2.2.2.2.2.1 + nI v, V.2.2.2.2.2.2.2.2.2.2.2.2.2.2.2.2.2) ∧ ∀ i p, (ps.filterMap (advP v))[i]? = some p → pl i = nI p.1 ∧ we i = nI p.2.1 ∧ ca i = nI p.2.2) (by
    rintro m s ⟨i, pl, we, ca, ow, hm, rfl, ha, hb⟩
    have hlen := fm_len v (ps.take i)
    have hti : (ps.take i).length = i := by rw [List.length_take]; omega
    rw [hti] at hlen
    by_cases m0 : m = 0
    · have hi : i = ps.length := by omega
      subst hi
      rw [List.take_length] at ha ⊢
      refine .inl ⟨_, fun K => ?_, pl, we, ca, ow, rfl, ha⟩
      rw [cb4]
      refine (if_pos (show V.2.2.2.2.2.2.2.1 ≤ nI ps.length by rw [ep]; exact nI_le (Nat.le_refl _) (by omega))).trans ?_
      unfold b_X4_carryPeople_105
      dsimp only
      rw [ev]
    · have hi : i < ps.length := by omega
      obtain ⟨p, hpi⟩ := get_of hi
      have hpm : p ∈ ps := List.mem_of_getElem? hpi
      have hp1 := hp p hpm
      obtain ⟨q1, q2, q3⟩ := hb i p (Nat.le_refl _) hpi
      have hts := take_s hpi
      by_cases c : p.1 + v < 1000
      · have e1 : (ps.take (i + 1)).filterMap (advP v) = (ps.take i).filterMap (advP v) ++ [(p.1 + v, p.2)] := by
          rw [hts, List.filterMap_append]
          congr 1
          show List.filterMap (advP v) [p] = _
          rw [List.filterMap_cons, show advP v p = some (p.1 + v, p.2) from if_pos c]; rfl
        have e2 : ((ps.take (i + 1)).filterMap (advP v)).length = ((ps.take i).filterMap (advP v)).length + 1 := by rw [e1, List.length_append]; rfl
        generalize hL : (ps.take i).filterMap (advP v) = L at *
        refine .inr ⟨m - 1, _, by omega, ⟨i + 1, upd pl L.length (nI (p.1 + v)), upd we L.length (nI p.2.1), upd ca L.length (nI p.2.2), ow, by omega, rfl, fun k p' hk => ?_, fun k p' hk hp' => ?_⟩, fun K => ?_⟩
        · rw [e1] at hk
          by_cases z : k = L.length
          · subst z
            rw [List.getElem?_append_right (Nat.le_refl _), Nat.sub_self] at hk
            cases hk
            rw [upd_e rfl, upd_e rfl, upd_e rfl]
            exact ⟨rfl, rfl, rfl⟩
          · rw [upd_n z, upd_n z, upd_n z]
            by_cases y : k < L.length
            · rw [List.getElem?_append_left y] at hk
              exact ha k p' hk
            · rw [List.getElem?_eq_none (by rw [List.length_append]; simp only [List.length_singleton]; omega)] at hk
              cases hk
        · rw [upd_n (by omega), upd_n (by omega), upd_n (by omega)]
          exact hb k p' (by omega) hp'
        · obtain ⟨V1, hV1⟩ : ∃ V1 : St, V1 = (V.1, pl, we, ca, V.2.2.2.2.1, V.2.2.2.2.2.1, V.2.2.2.2.2.2.1, V.2.2.2.2.2.2.2.1, V.2.2.2.2.2.2.2.2.1, V.2.2.2.2.2.2.2.2.2.1, V.2.2.2.2.2.2.2.2.2.2.1, V.2.2.2.2.2.2.2.2.2.2.2.1, V.2.2.2.2.2.2.2.2.2.2.2.2.1 + nI (i - L.length), ow, V.2.2.2.2.2.2.2.2.2.2.2.2.2.2.1, V.2.2.2.2.2.2.2.2.2.2.2.2.2.2.2.1, V.2.2.2.2.2.2.2.2.2.2.2.2.2.2.2.2.1, V.2.2.2.2.2.2.2.2.2.2.2.2.2.2.2.2.2) := ⟨_, rfl⟩
          have f1 : V1.2.2.2.2.2.2.2.1 = nI ps.length := by rw [hV1]; exact ep
          have f2 : V1.2.2.2.2.2.2.2.2.2.2.2.1 = nI v := by rw [hV1]; exact ev
          have f3 : V1.2.1 = pl := by rw [hV1]
          have f4 : V1.2.2.1 = we := by rw [hV1]
          have f5 : V1.2.2.2.1 = ca := by rw [hV1]
          rw [← hV1, cb4, e2]
          rw [f1, f2, f3, f4, f5, if_neg (nI_ge hi (by omega)), if_neg (show ¬ (20 : Int32) ≤ nI i from nI_ge (b := 20) (by omega) (by decide)), ix_nI (show i < 20 by omega) (by decide), cl i (by omega), q1, nI_add, if_pos (show nI (p.1 + v) < (1000 : Int32) from nI_lt (b := 1000) c (by decide)), ix_nI (show L.length < 20 by omega) (by decide), ix_nI (show i < 20 by omega) (by decide), ix_nI (show L.length < 20 by omega) (by decide), ix_nI (show i < 20 by omega) (by decide), ix_nI (show L.length < 20 by omega) (by decide), cl _ (show L.length < 2 ^ 31 by omega), q2, q3]
          unfold b_X4_carryPeople_99
          rw [nI_1, show i + 1 - (L.length + 1) = i - L.length from by omega]
          dsimp only
          rw [nI_1, hV1, ← ev, ← ep]
      · have e1 : (ps.take (i + 1)).filterMap (advP v) = (ps.take i).filterMap (advP v) := by
          rw [hts, List.filterMap_append]
          show _ ++ List.filterMap (advP v) [p] = _
          rw [List.filterMap_cons, show advP v p = none from if_neg c]
          exact List.append_nil _
        generalize hL : (ps.take i).filterMap (advP v) = L at *
        refine .inr ⟨m - 1, _, by omega, ⟨i + 1, pl, we, ca, ow + we i, by omega, rfl, fun k p' hk => ?_, fun k p' hk hp' => hb k p' (by omega) hp'⟩, fun K => ?_⟩
        · rw [e1] at hk; exact ha k p' hk
        · obtain ⟨V1, hV1⟩ : ∃ V1 : St, V1 = (V.1, pl, we, ca, V.2.2.2.2.1, V.2.2.2.2.2.1, V.2.2.2.2.2.2.1, V.2.2.2.2.2.2.2.1, V.2.2.2.2.2.2.2.2.1, V.2.2.2.2.2.2.2.2.2.1, V.2.2.2.2.2.2.2.2.2.2.1, V.2.2.2.2.2.2.2.2.2.2.2.1, V.2.2.2.2.2.2.2.2.2.2.2.2.1 + nI (i - L.length), ow, V.2.2.2.2.2.2.2.2.2.2.2.2.2.2.1, V.2.2.2.2.2.2.2.2.2.2.2.2.2.2.2.1, V.2.2.2.2.2.2.2.2.2.2.2.2.2.2.2.2.1, V.2.2.2.2.2.2.2.2.2.2.2.2.2.2.2.2.2) := ⟨_, rfl⟩
          have f1 : V1.2.2.2.2.2.2.2.1 = nI ps.length := by rw [hV1]; exact ep
          have f2 : V1.2.2.2.2.2.2.2.2.2.2.2.1 = nI v := by rw [hV1]; exact ev
          have f3 : V1.2.1 = pl := by rw [hV1]
          have f4 : V1.2.2.1 = we := by rw [hV1]
          have f5 : V1.2.2.2.1 = ca := by rw [hV1]
          rw [← hV1, cb4, e1]
          rw [f1, f2, f3, f4, f5, if_neg (nI_ge hi (by omega)), if_neg (show ¬ (20 : Int32) ≤ nI i from nI_ge (b := 20) (by omega) (by decide)), ix_nI (show i < 20 by omega) (by decide), cl i (by omega), q1, nI_add, if_neg (show ¬ nI (p.1 + v) < (1000 : Int32) from nI_nlt (a := p.1 + v) (b := 1000) (by omega) (by omega)), ix_nI (show i < 20 by omega) (by decide)]
          unfold b_X4_carryPeople_99
          rw [show i + 1 - L.length = (i - L.length) + 1 from by omega, ← nI_1 (i - L.length), ← Int32.add_assoc]
          dsimp only
          rw [nI_1 i, hV1, ← ev, ← ep])
    N ps.length (V, (0 : Int32), (0 : Int32)) (by omega) ⟨0, V.2.1, V.2.2.1, V.2.2.2.1, V.2.2.2.2.2.2.2.2.2.2.2.2.2.1, rfl, by
      show _ = ((V.1, V.2.1, V.2.2.1, V.2.2.2.1, V.2.2.2.2.1, V.2.2.2.2.2.1, V.2.2.2.2.2.2.1, V.2.2.2.2.2.2.2.1, V.2.2.2.2.2.2.2.2.1, V.2.2.2.2.2.2.2.2.2.1, V.2.2.2.2.2.2.2.2.2.2.1, V.2.2.2.2.2.2.2.2.2.2.2.1, V.2.2.2.2.2.2.2.2.2.2.2.2.1 + nI 0, V.2.2.2.2.2.2.2.2.2.2.2.2.2.1, V.2.2.2.2.2.2.2.2.2.2.2.2.2.2.1, V.2.2.2.2.2.2.2.2.2.2.2.2.2.2.2.1, V.2.2.2.2.2.2.2.2.2.2.2.2.2.2.2.2.1, V.2.2.2.2.2.2.2.2.2.2.2.2.2.2.2.2.2), nI 0, nI 0)
      rw [show nI 0 = 0 from rfl, Int32.add_zero], fun k p (hk : ([] : List Pp)[k]? = some p) => by simp at hk, fun k p _ hk => hr k p hk⟩
  exact ⟨pl, we, ca, ow, by rw [← h2]; exact h1, h3⟩
