theorem st_count {ρ : Nat → Ru} {RS : Nat → Prop} {Vp : Pd} {Vd : Rd} {Vn : St} {Vm : St} {Vh : Hb} {Vk0 : St} {Vk1 : St} {Vk2 : St} {Vk3 : St} {Vk4 : St} {Vk5 : St} {Vs0 : St} {Vs1 : St} {Vz : Fn} {M : Md} {N : Nat} (hN : 5000 ≤ N) (H : RelS ρ RS (Vp, Vd, Vn, Vm, Vh, Vk0, Vk1, Vk2, Vk3, Vk4, Vk5, Vs0, Vs1, Vz) M) (p0 : Int32) : ∃ (o1 : Int32) (o2 : Int32), f_X5_count N Vp Vn Vh Vk0 Vk1 Vk2 Vk3 Vk4 Vk5 p0 = some o1 ∧ f_X6_count N M p0 = some o2 ∧ o1 = o2 ∧ RelS ρ RS (Vp, Vd, Vn, Vm, Vh, Vk0, Vk1, Vk2, Vk3, Vk4, Vk5, Vs0, Vs1, Vz) M := by
  obtain ⟨hn, ⟨l, h, hl, hh, i1, i2, i3, hj⟩, hs, ⟨n, hn60, j1, j2, j3⟩⟩ := RelS_iff.mp H
  obtain ⟨w, hw, g1, g2⟩ := load_rel hN hn.1
  obtain ⟨p, t, s, a1, a2, a3, b1, b2, b3, b4, b5, b6, c1, c2, c3, c4, c5, c6, c7, c8⟩ := hn.1
  obtain ⟨d1, d2, d3, d4, d5, d6⟩ := c6
  have bad : (∀ j : Nat, j < 20 → ¬ p0 = nI j) → (f_X6_in p0 11 17 = some 0) → ∃ (o1 : Int32) (o2 : Int32), f_X5_count N Vp Vn Vh Vk0 Vk1 Vk2 Vk3 Vk4 Vk5 p0 = some o1 ∧ f_X6_count N M p0 = some o2 ∧ o1 = o2 ∧ RelS ρ RS (Vp, Vd, Vn, Vm, Vh, Vk0, Vk1, Vk2, Vk3, Vk4, Vk5, Vs0, Vs1, Vz) M := by
    intro hne hin
    refine ⟨-2, -2, ?_, ?_, rfl, H⟩
    · unfold f_X5_count f_X4_number
      rw [if_neg (show ¬ p0 = (18 : Int32) from hne 18 (by decide)), if_neg (show ¬ p0 = (19 : Int32) from hne 19 (by decide)), if_neg (show ¬ p0 = (0 : Int32) from hne 0 (by decide)), if_neg (show ¬ p0 = (1 : Int32) from hne 1 (by decide)), if_neg (show ¬ p0 = (2 : Int32) from hne 2 (by decide)), if_neg (show ¬ p0 = (3 : Int32) from hne 3 (by decide)), if_neg (show ¬ p0 = (4 : Int32) from hne 4 (by decide)), if_neg (show ¬ p0 = (5 : Int32) from hne 5 (by decide)), if_neg (show ¬ p0 = (6 : Int32) from hne 6 (by decide)), if_neg (show ¬ p0 = (7 : Int32) from hne 7 (by decide)), if_neg (show ¬ p0 = (8 : Int32) from hne 8 (by decide)), if_neg (show ¬ p0 = (9 : Int32) from hne 9 (by decide)), if_neg (show ¬ p0 = (10 : Int32) from hne 10 (by decide))]
      have hs2 : f_X4_settingCounted Vn (p0 - 11) = some (-2) := by
        unfold f_X4_settingCounted
        rcases pk_ix (p0 - 11) (n := 7) (by decide) with q | q | ⟨j, hj, q⟩
        · rw [if_pos q]; rfl
        · rw [if_neg (nn q (by decide)).1, if_pos (show (7 : Int32) ≤ p0 - 11 from q)]; rfl
        · have : p0 = nI (j + 11) := by
            have e : p0 - 11 + 11 = nI j + 11 := by rw [q]
            rw [Int32.sub_add_cancel] at e
            rw [e]; exact nI_add j 11
          exact absurd this (hne _ (by omega))
      rw [hs2]; rfl
    · unfold f_X6_count
      rw [hin, Option.bind_some, if_pos rfl, if_neg (show ¬ p0 = (0 : Int32) from hne 0 (by decide)), if_neg (show ¬ p0 = (1 : Int32) from hne 1 (by decide)), if_neg (show ¬ p0 = (2 : Int32) from hne 2 (by decide)), if_neg (show ¬ p0 = (3 : Int32) from hne 3 (by decide)), if_neg (show ¬ p0 = (4 : Int32) from hne 4 (by decide)), if_neg (show ¬ p0 = (5 : Int32) from hne 5 (by decide)), if_neg (show ¬ p0 = (6 : Int32) from hne 6 (by decide)), if_neg (show ¬ p0 = (7 : Int32) from hne 7 (by decide)), if_neg (show ¬ p0 = (8 : Int32) from hne 8 (by decide)), if_neg (show ¬ p0 = (9 : Int32) from hne 9 (by decide)), if_neg (show ¬ p0 = (10 : Int32) from hne 10 (by decide)), if_neg (show ¬ p0 = (11 : Int32) from hne 11 (by decide)), if_neg (show ¬ p0 = (12 : Int32) from hne 12 (by decide)), if_neg (show ¬ p0 = (13 : Int32) from hne 13 (by decide)), if_neg (show ¬ p0 = (14 : Int32) from hne 14 (by decide)), if_neg (show ¬ p0 = (15 : Int32) from hne 15 (by decide)), if_neg (show ¬ p0 = (16 : Int32) from hne 16 (by decide)), if_neg (show ¬ p0 = (17 : Int32) from hne 17 (by decide)), if_neg (show ¬ p0 = (18 : Int32) from hne 18 (by decide)), if_neg (show ¬ p0 = (19 : Int32) from hne 19 (by decide))]
  rcases pk_ix p0 (n := 20) (by decide) with hlt | hge | ⟨k, hk, rfl⟩
  · refine bad (fun j hj e => ?_) (in_0 (.inl (by rw [z_lt]; rw [z_lt, z_0] at hlt; have : (11 : Int32).toInt = 11 := by decide
                                                  omega)))
    rw [e, z_lt, z_0, z_n (by omega)] at hlt
    omega
  · have hz := z_le.mp hge
    rw [z_n (by decide)] at hz
    refine bad (fun j hj e => ?_) (in_0 (.inr (by rw [z_lt]; have : (17 : Int32).toInt = 17 := by decide
                                                  omega)))
    rw [e, z_n (by omega)] at hz
    omega
  · have hc : k = 0 ∨ k = 1 ∨ k = 2 ∨ k = 3 ∨ k = 4 ∨ k = 5 ∨ k = 6 ∨ k = 7 ∨ k = 8 ∨ k = 9 ∨ k = 10 ∨ k = 11 ∨ k = 12 ∨ k = 13 ∨ k = 14 ∨ k = 15 ∨ k = 16 ∨ k = 17 ∨ k = 18 ∨ k = 19 := by omega
    rcases hc with rfl | rfl | rfl | rfl | rfl | rfl | rfl | rfl | rfl | rfl | rfl | rfl | rfl | rfl | rfl | rfl | rfl | rfl | rfl | rfl
    · exact ⟨_, _, rfl, rfl, b3.trans b4.symm, H⟩
    · exact ⟨_, _, rfl, rfl, b1.trans b2.symm, H⟩
    · exact ⟨nI w, nI w, congrArg (fun y : Option Int32 => (y.bind fun o4 => some o4).bind fun o3 => some o3) g1, congrArg (fun y : Option Int32 => y.bind fun o7 => some o7) g2, rfl, H⟩
    · exact ⟨_, _, rfl, rfl, c3.1, H⟩
    · exact ⟨_, _, rfl, rfl, c4.1, H⟩
    · exact ⟨_, _, rfl, rfl, d2, H⟩
    · exact ⟨_, _, rfl, rfl, d3, H⟩
    · exact ⟨_, _, rfl, rfl, d4, H⟩
    · exact ⟨_, _, rfl, rfl, d1, H⟩
    · exact ⟨_, _, rfl, rfl, d5, H⟩
    · exact ⟨_, _, rfl, rfl, d6, H⟩
    · exact ⟨Vn.1 0, M.1 0, rfl, rfl, c1 0 (by omega), H⟩
    · exact ⟨Vn.1 1, M.1 1, rfl, rfl, c1 1 (by omega), H⟩
    · exact ⟨Vn.1 2, M.1 2, rfl, rfl, c1 2 (by omega), H⟩
    · exact ⟨Vn.1 3, M.1 3, rfl, rfl, c1 3 (by omega), H⟩
    · exact ⟨Vn.1 4, M.1 4, rfl, rfl, c1 4 (by omega), H⟩
    · exact ⟨Vn.1 5, M.1 5, rfl, rfl, c1 5 (by omega), H⟩
    · exact ⟨Vn.1 6, M.1 6, rfl, rfl, c1 6 (by omega), H⟩
    · exact ⟨_, _, rfl, rfl, j1.trans j2.symm, H⟩
    · exact ⟨_, _, rfl, rfl, i2.trans i3.symm, H⟩
