/-! PURE: the rule that is read is the rule that was written: the law's isRule says yes -/
def vG (g : Int32) (s : Nat) : En := ruE (PG g) (pcG g) (nI s) (rwG g + 1)
def txG (g : Int32) : List Int32 := rulT (PG g) (pcG g) (rwG g + 1)
def MeanG (R : Ru) (g : Int32) : Prop := Mean R (vG g) (ruN (PG g) (pcG g) (rwG g + 1)) (ruL (PG g) (pcG g) (rwG g + 1))
theorem rwN_pos (Q : Nat → Prt) (p : Nat) : 1 ≤ rwN Q (p + 1) := by
  have := pN_le (Q p)
  show 1 ≤ (if p = 0 then 0 else rwN Q p + 1) + pN (Q p)
  omega
theorem ruN_pos (P : Nat → Nat → Prt) (pc : Nat → Nat) (r : Nat) : 1 ≤ ruN P pc (r + 1) := by
  have := rwN_pos (P r) (pc r)
  show 1 ≤ (if r = 0 then 0 else ruN P pc r + 1) + rwN (P r) (pc r + 1)
  omega
theorem read_mean {P : Nat → Nat → Prt} {pc : Nat → Nat} {r N : Nat} (hN : 5000 ≤ N) (hP : ∀ r p, okP (P r p)) (hpc : ∀ r, pc r < 3) (hr : ∀ q, q ≤ r → ruN P pc q ≤ 36) (hr2 : ruN P pc (r + 1) ≤ 60) {V : Rd} {nt : Nat} {Tt : Fn} (hnt : nt < 2 ^ 31) (hl : (rulT P pc (r + 1)).length ≤ nt) (hl2 : (rulT P pc (r + 1)).length ≤ 60)
    (hT : ∀ k, k < (rulT P pc (r + 1)).length → (rulT P pc (r + 1))[k]? = some (Tt k)) :
    ∃ S', f_X2_read N V nt Tt (nI (rulT P pc (r + 1)).length) = some S' ∧ Mean S'.2 (fun s => ruE P pc (nI s) (r + 1)) (ruN P pc (r + 1)) (ruL P pc (r + 1)) := by
  have key : ∀ s, s < 256 → ∃ S', f_X2_read N V nt Tt (nI (rulT P pc (r + 1)).length) = some S' ∧ RSt s S' [] [ruE P pc (nI s) (r + 1)] (ruN P pc (r + 1)) (ruL P pc (r + 1)) := by
    intro s hs
    obtain ⟨S', a1, a2⟩ := rule_done hN hP hpc (RSt_0 s V.1 V.2.1) hs r hr hr2
    refine ⟨S', ?_, a2⟩
    unfold f_X2_read
    obtain ⟨m, hm⟩ : ∃ m, N = (rulT P pc (r + 1)).length + 1 + m := ⟨N - ((rulT P pc (r + 1)).length + 1), by omega⟩
    have e := read_list (N := N) (V := V) (p1 := nI (rulT P pc (r + 1)).length) hnt (rulT P pc (r + 1)) 0 ((V.1, V.2.1, 0, 0), ((fun _ => 0), (fun _ => 0), (fun _ => 0), (fun _ => 0), 0, 0)) m (fun k hk => by rw [Nat.zero_add]; exact hT k hk) (by rw [Nat.zero_add]) (by omega)
    rw [← hm] at e
    refine e.trans ?_
    cases h : rdL N (rulT P pc (r + 1)) ((V.1, V.2.1, 0, 0), ((fun _ => 0), (fun _ => 0), (fun _ => 0), (fun _ => 0), 0, 0)) with
    | none => rw [h] at a1; cases a1
    | some S1 =>
      rw [h, Option.bind_some] at a1
      rw [Option.bind_some, a1, Option.bind_some]
  obtain ⟨S', a1, -⟩ := key 0 (by omega)
  refine ⟨S', a1, mean_of (fun s hs => ?_) (ruN_pos P pc r) hr2⟩
  obtain ⟨S2, b1, b2⟩ := key s hs
  obtain rfl := Option.some.inj (b1.symm.trans a1)
  exact b2
theorem read_g {N : Nat} (hN : 5000 ≤ N) (g : Int32) (f : Fn) (V : Rd) : ∃ S', f_X2_read N V 60 (pdW f (txG g)).1 (pdW f (txG g)).2 = some S' ∧ MeanG S'.2 g := by
  have hl := rulT_le g (rwG_lt g)
  have hr := rwG_lt g
  exact read_mean hN (PG_ok g) (pcG_lt g) (fun q hq => by have := ruN_le (pcG_lt g) q (P := PG g); omega) (by have := ruN_le (pcG_lt g) (rwG g + 1) (P := PG g); omega) (by decide) (Nat.le_trans hl (by omega)) (Nat.le_trans hl (by omega)) (pdW_in (f := f) (l := txG g) (Nat.le_trans hl (by omega))).2.2
theorem fault_g {N : Nat} (hN : 5000 ≤ N) (g : Int32) (f : Fn) : f_X1_findFault N (pdW f (txG g)) = some (-6) :=
  noFault hN (pdW_in (Nat.le_trans (rulT_le g (rwG_lt g)) (by omega))) (FF_rule (PG_ok g) _)
/-! fewest -/
def btc (k : Nat) : Int32 := (f_J6_bitCount_0f7a4 (nI k)).getD 0
def bst (v : Nat → En) : Nat → Option Nat
  | 0 => none
  | k + 1 => if (v k).1 = 0 then bst v k else match bst v k with
    | none => some k
    | some j => if btc j ≤ btc k then some j else some k
def bI : Option Nat → Int32
  | none => -6
  | some j => nI j
theorem bst_lt (v : Nat → En) : ∀ k j, bst v k = some j → j < k
  | 0, j, h => by cases h
  | k + 1, j, h => by
    unfold bst at h
    by_cases c : (v k).1 = 0
    · rw [if_pos c] at h; exact Nat.lt_succ_of_lt (bst_lt v k j h)
    · rw [if_neg c] at h
      cases hb : bst v k with
      | none => rw [hb] at h; cases h; exact Nat.lt_succ_self _
      | some i =>
        rw [hb] at h
        dsimp only at h
        have := bst_lt v k i hb
        by_cases d : btc i ≤ btc k
        · rw [if_pos d] at h; cases h; omega
        · rw [if_neg d] at h; cases h; omega
theorem btc_ok {N k : Nat} (hN : 5000 ≤ N) (hk : k < 256) : f_J6_bitCount_0f7a4 (nI k) = some (btc k) ∧ f_L_bits N (nI k) = some (btc k) := by
  obtain ⟨v, h1, h2⟩ := bits_ok hN hk
  unfold btc
  rw [h1]
  exact ⟨rfl, h2⟩
theorem fewest_ok {N : Nat} (hN : 5000 ≤ N) {R : Ru} {v : Nat → En} {n : Nat} {lm : Int32} (hM : Mean R v n lm) (Vn : St) : f_X5_fewest N Vn R = some (bI (bst v 256)) := by
  unfold f_X5_fewest
  refine lp_c (body := b_X5_fewest_5 N Vn R) (fun k => (bI (bst v k), nI k)) 256 _ (fun k hk K => ?_) (fun K => ?_) (by omega)
  · obtain ⟨h1, h2, h3, h4⟩ := hM.2.2.2.2 N hN k hk
    have e29 : b_X5_fewest_29 N Vn R K (bI (bst v k), nI k) = (if (v k).1 = 0 then K (bI (bst v k), nI (k + 1)) else K (nI k, nI (k + 1))) := by
      unfold b_X5_fewest_29 b_X5_fewest_34 b_X5_fewest_55
      dsimp only
      rw [if_neg k10.mp, h2, Option.bind_some, nI_1]
    have e34 : b_X5_fewest_34 N Vn R K (bI (bst v k), nI k, 0) = K (bI (bst v k), nI (k + 1)) := by
      unfold b_X5_fewest_34 b_X5_fewest_55
      dsimp only
      rw [if_pos rfl, nI_1]
    unfold b_X5_fewest_5
    dsimp only
    rw [if_neg (show ¬ (256 : Int32) ≤ nI k from nI_ge (b := 256) hk (by decide)), e29, e34]
    show _ = K (bI (if (v k).1 = 0 then bst v k else match bst v k with
      | none => some k
      | some j => if btc j ≤ btc k then some j else some k), nI (k + 1))
    cases hb : bst v k with
    | none =>
      rw [if_pos (show bI none = -6 from rfl)]
      by_cases c : (v k).1 = 0
      · rw [if_pos c, if_pos c]
      · rw [if_neg c, if_neg c]; rfl
    | some j =>
      have hj := bst_lt v k j hb
      rw [if_neg (show ¬ bI (some j) = -6 from fun e => by
        have h0 : ¬ nI j < 0 := nI_pos (by omega)
        have h1 : nI j = -6 := e
        rw [h1] at h0
        exact h0 (by decide)), (btc_ok hN hk).1, Option.bind_some, show bI (some j) = nI j from rfl, (btc_ok hN (show j < 256 by omega)).1, Option.bind_some]
      by_cases c : (v k).1 = 0
      · rw [if_pos c, if_pos c]
        split <;> rfl
      · rw [if_neg c, if_neg c]
        dsimp only
        by_cases d : btc j ≤ btc k
        · rw [if_pos d, if_pos d]; rfl
        · rw [if_neg d, if_neg d]; rfl
  · unfold b_X5_fewest_5
    rw [if_pos (show (256 : Int32) ≤ nI 256 by decide)]
/-! the sensors as they are told -/
def nowF (s : Nat) : Nat → Int32
  | 0 => 0
  | k + 1 => nowF s k ||| (((nI s >>> ((((2 : Int32) * nI (k / 2)) + nI (k % 2)) &&& 31)) &&& (1 : Int32)) <<< (nI k &&& 31))
theorem now_tab : ∀ s, s < 256 → nowF s 8 = nI s := by decide +kernel
theorem spot_ok {Vn : St} {s k : Nat} (hk : k < 8) (e : Vn.2.2.2.2.2.2.2.2.1 = nI s) : f_X5_ofSpot Vn (nI k / (2 : Int32)) (nI k - nI k / (2 : Int32) * (2 : Int32)) = some ((nI s >>> ((((2 : Int32) * nI (k / 2)) + nI (k % 2)) &&& 31)) &&& (1 : Int32)) := by
  rw [show nI k - nI k / (2 : Int32) * (2 : Int32) = nI (k % 2) from pk_rem (d := 2) (by omega) (by omega) (by omega), show nI k / (2 : Int32) = nI (k / 2) from pk_div (d := 2) (by omega) (by omega) (by omega)]
  unfold f_X5_ofSpot f_X4_complains
  rw [if_neg (nI_pos (by omega)), if_pos (show nI (k / 2) < (4 : Int32) from nI_lt (b := 4) (by omega) (by decide)), e]
  have hc : k % 2 = 0 ∨ k % 2 = 1 := by omega
  rcases hc with h | h
  · rw [h, if_pos (show nI 0 = 0 from rfl), Option.bind_some]; rfl
  · rw [h, if_neg (show ¬ nI 1 = (0 : Int32) by decide), if_pos (show nI 1 = 1 from rfl), Option.bind_some]; rfl
theorem ruleHolds_ok {N : Nat} (hN : 5000 ≤ N) {R : Ru} {v : Nat → En} {n : Nat} {lm : Int32} (hM : Mean R v n lm) {Vn : St} {s : Nat} (hs : s < 256) (e : Vn.2.2.2.2.2.2.2.2.1 = nI s) : f_X4_ruleHolds N Vn R = some (v s).1 := by
  obtain ⟨h1, h2, h3, h4⟩ := hM.2.2.2.2 N hN s hs
  unfold f_X4_ruleHolds
  rw [e, h2, Option.bind_some]
  exact zb_ok h1
theorem rule_0 {N : Nat} {R : Ru} {v : Nat → En} {n : Nat} {lm : Int32} (hM : Mean R v n lm) (Vn : St) : f_X5_rule N Vn R 0 = some (nI n) := by
  unfold f_X5_rule; rw [if_pos rfl, hM.1]
theorem rule_1 {N : Nat} (hN : 5000 ≤ N) {R : Ru} {v : Nat → En} {n : Nat} {lm : Int32} (hM : Mean R v n lm) (Vn : St) {s : Nat} (hs : s < 256) : f_X5_rule N Vn R 1 = some (v s).2.1 := by
  unfold f_X5_rule; rw [if_neg (by decide), if_pos rfl, (hM.2.2.2.2 N hN s hs).2.2.2, Option.bind_some]
theorem rule_2 {N : Nat} (hN : 5000 ≤ N) {R : Ru} {v : Nat → En} {n : Nat} {lm : Int32} (hM : Mean R v n lm) {Vn : St} {s : Nat} (hs : s < 256) (e : Vn.2.2.2.2.2.2.2.2.1 = nI s) : f_X5_rule N Vn R 2 = some (v s).1 := by
  unfold f_X5_rule b_X5_rule_73
  rw [if_neg (by decide), if_neg (by decide), if_pos rfl, ruleHolds_ok hN hM hs e, Option.bind_some]
  rcases (hM.2.2.2.2 N hN s hs).1 with h | h
  · rw [h, if_pos rfl]
  · rw [h, if_neg k10.mp]
theorem rule_3 {N : Nat} {R : Ru} {v : Nat → En} {n : Nat} {lm : Int32} (hM : Mean R v n lm) (Vn : St) : f_X5_rule N Vn R 3 = some lm := by
  unfold f_X5_rule; rw [if_neg (by decide), if_neg (by decide), if_neg (by decide), if_pos rfl, hM.2.1]
theorem rule_4 {N : Nat} (hN : 5000 ≤ N) {R : Ru} {v : Nat → En} {n : Nat} {lm : Int32} (hM : Mean R v n lm) {Vn : St} {s : Nat} (hs : s < 256) (e : Vn.2.2.2.2.2.2.2.2.1 = nI s) : f_X5_rule N Vn R 4 = some (nI (v s).2.2) := by
  unfold f_X5_rule
  rw [if_neg (by decide), if_neg (by decide), if_neg (by decide), if_neg (by decide), if_pos rfl, e, (hM.2.2.2.2 N hN s hs).2.2.1, Option.bind_some]
theorem isRule_ok {N : Nat} (hN : 5000 ≤ N) {R : Ru} {g : Int32} (hM : MeanG R g) {Vn : St} {s : Nat} (hs : s < 256) (e : Vn.2.2.2.2.2.2.2.2.1 = nI s) {ρ : Nat → Option Ru} (hρ : ρ Vn.2.2.2.2.2.2.1 = some R) : f_L_isRule N Vn ρ g = some 1 := by
  unfold f_L_isRule
  refine lp_c (body := b_L_isRule_5 N Vn ρ g) (fun k => (bI (bst (vG g) k), nI k)) 256 _ (fun k hk K => ?_) (fun K => ?_) (by omega)
  · obtain ⟨h1, h2, h3, h4⟩ := hM.2.2.2.2 N hN k hk
    have ew : f_X5_wouldHold N Vn R (nI k) = some (vG g k).1 := by
      unfold f_X5_wouldHold b_X5_wouldHold_33
      rw [if_neg (nI_pos (by omega)), if_pos (show nI k < (256 : Int32) from nI_lt (b := 256) hk (by decide)), h2, Option.bind_some]
      rcases h1 with z | z
      · rw [z, if_pos rfl]
      · rw [z, if_neg k10.mp]
    have e34 : ∀ w : Int32, w = (vG g k).1 → b_L_isRule_34 N Vn ρ g K (bI (bst (vG g) k), nI k, (vG g k).1, (vG g k).1, w) = K (bI (bst (vG g) (k + 1)), nI (k + 1)) := by
      intro w hw
      unfold b_L_isRule_34 b_L_isRule_63 b_L_isRule_59 b_L_isRule_64
      dsimp only
      rw [if_pos hw.symm]
      show _ = K (bI (if (vG g k).1 = 0 then bst (vG g) k else match bst (vG g) k with
        | none => some k
        | some j => if btc j ≤ btc k then some j else some k), nI (k + 1))
      by_cases c : (vG g k).1 = 0
      · rw [if_pos c, if_pos c, nI_1]
      · rw [if_neg c, if_neg c]
        cases hb : bst (vG g) k with
        | none =>
          rw [if_pos (show bI none < 0 by decide), nI_1]; rfl
        | some j =>
          have hj := bst_lt _ k j hb
          rw [show bI (some j) = nI j from rfl, if_neg (nI_pos (by omega)), (btc_ok hN hk).2, Option.bind_some, (btc_ok hN (show j < 256 by omega)).2, Option.bind_some]
          dsimp only
          by_cases d : btc j ≤ btc k
          · rw [if_pos d, if_pos d, nI_1]; rfl
          · rw [if_neg d, if_neg d, nI_1]; rfl
    unfold b_L_isRule_5
    dsimp only
    rw [if_neg (show ¬ (256 : Int32) ≤ nI k from nI_ge (b := 256) hk (by decide)), holds_g hN g hk, Option.bind_some, hρ, Option.bind_some, ew, Option.bind_some]
    show (if (vG g k).1 = 0 then b_L_isRule_34 N Vn ρ g K (bI (bst (vG g) k), nI k, (vG g k).1, (vG g k).1, 0) else b_L_isRule_34 N Vn ρ g K (bI (bst (vG g) k), nI k, (vG g k).1, (vG g k).1, 1)) = _
    rcases h1 with z | z
    · rw [if_pos z]; exact e34 0 z.symm
    · rw [if_neg (by rw [z]; decide)]; exact e34 1 z.symm
  · unfold b_L_isRule_5
    rw [if_pos (show (256 : Int32) ≤ nI 256 by decide)]
    refine lp_c (body := b_L_isRule_76 N Vn ρ g) (fun k => (bI (bst (vG g) 256), nowF s k, nI k)) 8 _ (fun k hk K2 => ?_) (fun K2 => ?_) (by omega)
    · unfold b_L_isRule_76
      dsimp only
      rw [if_neg (show ¬ (8 : Int32) ≤ nI k from nI_ge (b := 8) hk (by decide)), spot_ok hk e, Option.bind_some, nI_1]
      rfl
    · obtain ⟨h1, h2, h3, h4⟩ := hM.2.2.2.2 N hN s hs
      have eh : f_L_holds N g (nI s) = some (vG g s).1 := holds_g hN g hs
      have el1 : f_L_looked N g (nI s) 1 = some (nI (ruN (PG g) (pcG g) (rwG g + 1))) := looked_g hN g hs (.inr rfl)
      have el0 : f_L_looked N g (nI s) 0 = some (nI (vG g s).2.2) := looked_g hN g hs (.inl rfl)
      have ed : f_L_deep N g = some (vG g s).2.1 := deep_g hN g (nI s)
      have e159 : ∀ w : Int32, w = (vG g s).1 → b_L_isRule_159 N Vn ρ g (nI s, (vG g s).1, w) = some 1 := by
        intro w hw
        unfold b_L_isRule_159 b_L_isRule_193
        dsimp only
        rw [if_pos hw.symm, hρ, Option.bind_some, rule_3 hM, Option.bind_some, letters_g hN, Option.bind_some, if_pos rfl, Option.bind_some, rule_4 hN hM hs e, Option.bind_some, el0, Option.bind_some, if_pos rfl]
        exact zb_ok (.inr rfl)
      unfold b_L_isRule_76
      dsimp only
      rw [if_pos (show (8 : Int32) ≤ nI 8 by decide), now_tab s hs, hρ, Option.bind_some, fewest_ok hN hM, Option.bind_some, if_pos rfl, Option.bind_some, rule_0 hM, Option.bind_some, el1, Option.bind_some, if_pos rfl, Option.bind_some, rule_1 hN hM Vn hs, Option.bind_some, ed, Option.bind_some, if_pos rfl, Option.bind_some, rule_2 hN hM hs e, Option.bind_some, eh, Option.bind_some]
      rcases h1 with z | z
      · rw [if_pos z]; exact e159 0 z.symm
      · rw [if_neg (by rw [z]; decide)]; exact e159 1 z.symm
