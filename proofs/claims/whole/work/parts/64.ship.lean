theorem sS_sh {k j : Nat} (h1 : 5 ≤ k) (h2 : k ≤ 22) : sS k j = false := by
  have h : k = 5 ∨ k = 6 ∨ k = 7 ∨ k = 8 ∨ k = 9 ∨ k = 10 ∨ k = 11 ∨ k = 12 ∨ k = 13 ∨ k = 14 ∨ k = 15 ∨ k = 16 ∨ k = 17 ∨ k = 18 ∨ k = 19 ∨ k = 20 ∨ k = 21 ∨ k = 22 := by omega
  rcases h with rfl | rfl | rfl | rfl | rfl | rfl | rfl | rfl | rfl | rfl | rfl | rfl | rfl | rfl | rfl | rfl | rfl | rfl <;> rfl
theorem sF_sh {k j : Nat} (h1 : 5 ≤ k) (h2 : k ≤ 22) : sF k j = false := by
  have h : k = 5 ∨ k = 6 ∨ k = 7 ∨ k = 8 ∨ k = 9 ∨ k = 10 ∨ k = 11 ∨ k = 12 ∨ k = 13 ∨ k = 14 ∨ k = 15 ∨ k = 16 ∨ k = 17 ∨ k = 18 ∨ k = 19 ∨ k = 20 ∨ k = 21 ∨ k = 22 := by omega
  rcases h with rfl | rfl | rfl | rfl | rfl | rfl | rfl | rfl | rfl | rfl | rfl | rfl | rfl | rfl | rfl | rfl | rfl | rfl <;> rfl
theorem sG_sh {k j : Nat} (h1 : 5 ≤ k) (h2 : k ≤ 22) : sG k j = false := by
  have h : k = 5 ∨ k = 6 ∨ k = 7 ∨ k = 8 ∨ k = 9 ∨ k = 10 ∨ k = 11 ∨ k = 12 ∨ k = 13 ∨ k = 14 ∨ k = 15 ∨ k = 16 ∨ k = 17 ∨ k = 18 ∨ k = 19 ∨ k = 20 ∨ k = 21 ∨ k = 22 := by omega
  rcases h with rfl | rfl | rfl | rfl | rfl | rfl | rfl | rfl | rfl | rfl | rfl | rfl | rfl | rfl | rfl | rfl | rfl | rfl <;> rfl
theorem sL_sh {k j : Nat} (h1 : 5 ≤ k) (h2 : k ≤ 22) : sL k j = false := by
  have h : k = 5 ∨ k = 6 ∨ k = 7 ∨ k = 8 ∨ k = 9 ∨ k = 10 ∨ k = 11 ∨ k = 12 ∨ k = 13 ∨ k = 14 ∨ k = 15 ∨ k = 16 ∨ k = 17 ∨ k = 18 ∨ k = 19 ∨ k = 20 ∨ k = 21 ∨ k = 22 := by omega
  rcases h with rfl | rfl | rfl | rfl | rfl | rfl | rfl | rfl | rfl | rfl | rfl | rfl | rfl | rfl | rfl | rfl | rfl | rfl <;> rfl
theorem sO_sh {k j : Nat} (h1 : 5 ≤ k) (h2 : k ≤ 22) : sO k j = false := by
  have h : k = 5 ∨ k = 6 ∨ k = 7 ∨ k = 8 ∨ k = 9 ∨ k = 10 ∨ k = 11 ∨ k = 12 ∨ k = 13 ∨ k = 14 ∨ k = 15 ∨ k = 16 ∨ k = 17 ∨ k = 18 ∨ k = 19 ∨ k = 20 ∨ k = 21 ∨ k = 22 := by omega
  rcases h with rfl | rfl | rfl | rfl | rfl | rfl | rfl | rfl | rfl | rfl | rfl | rfl | rfl | rfl | rfl | rfl | rfl | rfl <;> rfl
theorem sD_sh {k j : Nat} (h1 : 5 ≤ k) (h2 : k ≤ 22) : sD k j = false := by
  have h : k = 5 ∨ k = 6 ∨ k = 7 ∨ k = 8 ∨ k = 9 ∨ k = 10 ∨ k = 11 ∨ k = 12 ∨ k = 13 ∨ k = 14 ∨ k = 15 ∨ k = 16 ∨ k = 17 ∨ k = 18 ∨ k = 19 ∨ k = 20 ∨ k = 21 ∨ k = 22 := by omega
  rcases h with rfl | rfl | rfl | rfl | rfl | rfl | rfl | rfl | rfl | rfl | rfl | rfl | rfl | rfl | rfl | rfl | rfl | rfl <;> rfl
theorem sT_sh {k j : Nat} (h1 : 5 ≤ k) (h2 : k ≤ 22) : sT k j = false := by
  have h : k = 5 ∨ k = 6 ∨ k = 7 ∨ k = 8 ∨ k = 9 ∨ k = 10 ∨ k = 11 ∨ k = 12 ∨ k = 13 ∨ k = 14 ∨ k = 15 ∨ k = 16 ∨ k = 17 ∨ k = 18 ∨ k = 19 ∨ k = 20 ∨ k = 21 ∨ k = 22 := by omega
  rcases h with rfl | rfl | rfl | rfl | rfl | rfl | rfl | rfl | rfl | rfl | rfl | rfl | rfl | rfl | rfl | rfl | rfl | rfl <;> rfl
theorem sR_sh {k j : Nat} (h1 : 5 ≤ k) (h2 : k ≤ 22) : sR k j = false := by
  have h : k = 5 ∨ k = 6 ∨ k = 7 ∨ k = 8 ∨ k = 9 ∨ k = 10 ∨ k = 11 ∨ k = 12 ∨ k = 13 ∨ k = 14 ∨ k = 15 ∨ k = 16 ∨ k = 17 ∨ k = 18 ∨ k = 19 ∨ k = 20 ∨ k = 21 ∨ k = 22 := by omega
  rcases h with rfl | rfl | rfl | rfl | rfl | rfl | rfl | rfl | rfl | rfl | rfl | rfl | rfl | rfl | rfl | rfl | rfl | rfl <;> rfl
theorem sP_sh {k j : Nat} (h1 : 5 ≤ k) (h2 : k ≤ 22) : sP k j = false := by
  have h : k = 5 ∨ k = 6 ∨ k = 7 ∨ k = 8 ∨ k = 9 ∨ k = 10 ∨ k = 11 ∨ k = 12 ∨ k = 13 ∨ k = 14 ∨ k = 15 ∨ k = 16 ∨ k = 17 ∨ k = 18 ∨ k = 19 ∨ k = 20 ∨ k = 21 ∨ k = 22 := by omega
  rcases h with rfl | rfl | rfl | rfl | rfl | rfl | rfl | rfl | rfl | rfl | rfl | rfl | rfl | rfl | rfl | rfl | rfl | rfl <;> rfl
theorem sS_pl {k j : Nat} (h1 : 46 ≤ k) (h2 : k ≤ 57) : sS k j = false := by
  have h : k = 46 ∨ k = 47 ∨ k = 48 ∨ k = 49 ∨ k = 50 ∨ k = 51 ∨ k = 52 ∨ k = 53 ∨ k = 54 ∨ k = 55 ∨ k = 56 ∨ k = 57 := by omega
  rcases h with rfl | rfl | rfl | rfl | rfl | rfl | rfl | rfl | rfl | rfl | rfl | rfl <;> rfl
theorem sF_pl {k j : Nat} (h1 : 46 ≤ k) (h2 : k ≤ 57) : sF k j = false := by
  have h : k = 46 ∨ k = 47 ∨ k = 48 ∨ k = 49 ∨ k = 50 ∨ k = 51 ∨ k = 52 ∨ k = 53 ∨ k = 54 ∨ k = 55 ∨ k = 56 ∨ k = 57 := by omega
  rcases h with rfl | rfl | rfl | rfl | rfl | rfl | rfl | rfl | rfl | rfl | rfl | rfl <;> rfl
theorem sG_pl {k j : Nat} (h1 : 46 ≤ k) (h2 : k ≤ 57) : sG k j = false := by
  have h : k = 46 ∨ k = 47 ∨ k = 48 ∨ k = 49 ∨ k = 50 ∨ k = 51 ∨ k = 52 ∨ k = 53 ∨ k = 54 ∨ k = 55 ∨ k = 56 ∨ k = 57 := by omega
  rcases h with rfl | rfl | rfl | rfl | rfl | rfl | rfl | rfl | rfl | rfl | rfl | rfl <;> rfl
theorem sL_pl {k j : Nat} (h1 : 46 ≤ k) (h2 : k ≤ 57) : sL k j = false := by
  have h : k = 46 ∨ k = 47 ∨ k = 48 ∨ k = 49 ∨ k = 50 ∨ k = 51 ∨ k = 52 ∨ k = 53 ∨ k = 54 ∨ k = 55 ∨ k = 56 ∨ k = 57 := by omega
  rcases h with rfl | rfl | rfl | rfl | rfl | rfl | rfl | rfl | rfl | rfl | rfl | rfl <;> rfl
theorem sO_pl {k j : Nat} (h1 : 46 ≤ k) (h2 : k ≤ 57) : sO k j = false := by
  have h : k = 46 ∨ k = 47 ∨ k = 48 ∨ k = 49 ∨ k = 50 ∨ k = 51 ∨ k = 52 ∨ k = 53 ∨ k = 54 ∨ k = 55 ∨ k = 56 ∨ k = 57 := by omega
  rcases h with rfl | rfl | rfl | rfl | rfl | rfl | rfl | rfl | rfl | rfl | rfl | rfl <;> rfl
theorem sD_pl {k j : Nat} (h1 : 46 ≤ k) (h2 : k ≤ 57) : sD k j = false := by
  have h : k = 46 ∨ k = 47 ∨ k = 48 ∨ k = 49 ∨ k = 50 ∨ k = 51 ∨ k = 52 ∨ k = 53 ∨ k = 54 ∨ k = 55 ∨ k = 56 ∨ k = 57 := by omega
  rcases h with rfl | rfl | rfl | rfl | rfl | rfl | rfl | rfl | rfl | rfl | rfl | rfl <;> rfl
theorem sT_pl {k j : Nat} (h1 : 46 ≤ k) (h2 : k ≤ 57) : sT k j = false := by
  have h : k = 46 ∨ k = 47 ∨ k = 48 ∨ k = 49 ∨ k = 50 ∨ k = 51 ∨ k = 52 ∨ k = 53 ∨ k = 54 ∨ k = 55 ∨ k = 56 ∨ k = 57 := by omega
  rcases h with rfl | rfl | rfl | rfl | rfl | rfl | rfl | rfl | rfl | rfl | rfl | rfl <;> rfl
theorem sR_pl {k j : Nat} (h1 : 46 ≤ k) (h2 : k ≤ 57) : sR k j = false := by
  have h : k = 46 ∨ k = 47 ∨ k = 48 ∨ k = 49 ∨ k = 50 ∨ k = 51 ∨ k = 52 ∨ k = 53 ∨ k = 54 ∨ k = 55 ∨ k = 56 ∨ k = 57 := by omega
  rcases h with rfl | rfl | rfl | rfl | rfl | rfl | rfl | rfl | rfl | rfl | rfl | rfl <;> rfl
theorem sH_pl {k j : Nat} (h1 : 46 ≤ k) (h2 : k ≤ 57) : sH k j = false := by
  have h : k = 46 ∨ k = 47 ∨ k = 48 ∨ k = 49 ∨ k = 50 ∨ k = 51 ∨ k = 52 ∨ k = 53 ∨ k = 54 ∨ k = 55 ∨ k = 56 ∨ k = 57 := by omega
  rcases h with rfl | rfl | rfl | rfl | rfl | rfl | rfl | rfl | rfl | rfl | rfl | rfl <;> rfl
theorem r_st9 {x y z : Int32} {m : q_Mm} : f_X9_isStart x y z m = 0 ↔ ¬ ((-100000 ≤ x.toInt ∧ x.toInt ≤ 100000) ∧ (-100000 ≤ y.toInt ∧ y.toInt ≤ 100000) ∧ 1 ≤ z.toInt ∧ z.toInt ≤ 20) := by
  unfold f_X9_isStart
  simp only [r_within, li_m100000, li_100000, li_1, li_20]
  repeat' split
  all_goals simp
  all_goals omega
theorem r_st10 {x y z : Int32} {m : q_Mm} : f_X10_isStart x y z m = 0 ↔ ¬ ((-100000 ≤ x.toInt ∧ x.toInt ≤ 100000) ∧ (-100000 ≤ y.toInt ∧ y.toInt ≤ 100000) ∧ 1 ≤ z.toInt ∧ z.toInt ≤ 20) := by
  unfold f_X10_isStart
  simp only [r_inn, lj_m100000, lj_100000, lj_1, lj_20]
  repeat' split
  all_goals simp
  all_goals omega
theorem ok_ship : q_OK_ship Inv := by
  intro x1 x2 x3 x4 m hI
  obtain ⟨c, k, hc, hk, e1, e2, e3, e4, hr, hl, hb⟩ := hI.2.2.2.1
  by_cases g1 : (-100000 ≤ x1.toInt ∧ x1.toInt ≤ 100000) ∧ (-100000 ≤ x2.toInt ∧ x2.toInt ≤ 100000) ∧ 1 ≤ x3.toInt ∧ x3.toInt ≤ 20
  · by_cases g2 : -5 ≤ x4.toInt ∧ x4.toInt ≤ 5
    · by_cases hN : c = 9
      · subst hN
        refine ⟨-4, m, m, ?_, ?_, hI⟩
        · unfold f_X9_ship
          simp only [r_st9, r_within, li_m5, li_5]
          rw [if_neg (not_not_intro g1), if_neg (not_not_intro g2), e1, if_neg (by decide)]
        · unfold f_X10_ship
          simp only [r_st10, r_inn, lj_m5, lj_5]
          rw [if_neg (not_not_intro g1), if_neg (not_not_intro g2), e2, if_pos (by decide)]
      · have hlt : c < 9 := by omega
        have hi := r_in (k := c) (n := 9) hlt (by decide)
        refine ⟨nI c, (q_wi (q_wi (q_wi (q_wi (q_wi m (5 + 2 * c) 0 x1) (5 + 2 * c) 1 x2) (5 + 2 * c) 2 x3) (5 + 2 * c) 3 x4) 3 1 (nI (c + 1))), (q_wi (q_wi (q_wi (q_wi (q_wi (q_wi (q_wi (q_wi (q_wi (q_wi m (5 + 2 * c) 0 x1) (5 + 2 * c) 1 x2) (5 + 2 * c) 2 x3) (5 + 2 * c) 3 x4) 3 1 (nI (c + 1))) 63 c x1) 64 c x2) 65 c x3) 66 c x4) 58 11 (nI (c + 1))), ?_, ?_, ?_⟩
        · unfold f_X9_ship
          simp only [r_st9, r_within, li_m5, li_5]
          rw [if_neg (not_not_intro g1), if_neg (not_not_intro g2), e1, if_pos (show nI c < 9 from nI_lt hlt (by decide)), if_pos hi, r_cl (show c < 2 ^ 31 by omega)]
          have e5 : (f_X7_set (5 + 2 * c) x1 x2 x3 x4 m).1 3 1 = nI c := by
            unfold f_X7_set
            simp only [r_wi, show ¬ (3 = 5 + 2 * c) by omega, false_and, if_false, e1]
          rw [e5, nI_1]
          simp only [r_wi, and_self, if_true, nI_pred]
          rfl
        · have e6 : (q_wi (q_wi (q_wi (q_wi (q_wi m (5 + 2 * c) 0 x1) (5 + 2 * c) 1 x2) (5 + 2 * c) 2 x3) (5 + 2 * c) 3 x4) 3 1 (nI (c + 1))).1 58 11 = nI c := by
            simp only [r_wi, show ¬ (58 = 5 + 2 * c) by omega, Nat.reduceEqDiff, false_and, if_false, e2]
          unfold f_X10_ship
          simp only [r_st10, r_inn, lj_m5, lj_5]
          rw [if_neg (not_not_intro g1), if_neg (not_not_intro g2), e6, if_neg (show ¬ nI c = 9 from fun e => hN ((nI_eq (by omega) (by decide)).mp e))]
          generalize (q_wi (q_wi (q_wi (q_wi (q_wi m (5 + 2 * c) 0 x1) (5 + 2 * c) 1 x2) (5 + 2 * c) 2 x3) (5 + 2 * c) 3 x4) 3 1 (nI (c + 1))) = m1 at e6 ⊢
          simp only [r_wi, e6, r_cl (show c < 2 ^ 31 by omega), hi, if_true, Nat.reduceEqDiff, false_and, if_false, nI_1, and_self, nI_pred]
        · obtain ⟨h1, h2, h3, h4, h5, h6, h7, h8, h9, h10⟩ := hI
          refine ⟨IP_s (by repeat (first | exact Sm.rf | refine Sm.wi rfl ?_ | refine Sm.wl ?_ | refine Sm.wi (sP_sh (by omega) (by omega)) ?_)) h1, IS_s (by repeat (first | exact Sm.rf | refine Sm.wi rfl ?_ | refine Sm.wl ?_ | refine Sm.wi (sS_sh (by omega) (by omega)) ?_ | refine Sm.wi (sS_pl (by omega) (by omega)) ?_)) h2, IF_s (by repeat (first | exact Sm.rf | refine Sm.wi rfl ?_ | refine Sm.wl ?_ | refine Sm.wi (sF_sh (by omega) (by omega)) ?_ | refine Sm.wi (sF_pl (by omega) (by omega)) ?_)) h3, ?_, IG_s (by repeat (first | exact Sm.rf | refine Sm.wi rfl ?_ | refine Sm.wl ?_ | refine Sm.wi (sG_sh (by omega) (by omega)) ?_ | refine Sm.wi (sG_pl (by omega) (by omega)) ?_)) h5, IL_s (by repeat (first | exact Sm.rf | refine Sm.wi rfl ?_ | refine Sm.wl ?_ | refine Sm.wi (sL_sh (by omega) (by omega)) ?_ | refine Sm.wi (sL_pl (by omega) (by omega)) ?_)) h6, IO_s (by repeat (first | exact Sm.rf | refine Sm.wi rfl ?_ | refine Sm.wl ?_ | refine Sm.wi (sO_sh (by omega) (by omega)) ?_ | refine Sm.wi (sO_pl (by omega) (by omega)) ?_)) h7, ID_s (by repeat (first | exact Sm.rf | refine Sm.wi rfl ?_ | refine Sm.wl ?_ | refine Sm.wi (sD_sh (by omega) (by omega)) ?_ | refine Sm.wi (sD_pl (by omega) (by omega)) ?_)) h8, IT_s (by repeat (first | exact Sm.rf | refine Sm.wi rfl ?_ | refine Sm.wl ?_ | refine Sm.wi (sT_sh (by omega) (by omega)) ?_ | refine Sm.wi (sT_pl (by omega) (by omega)) ?_)) h9, IR_s (by repeat (first | exact Sm.rf | refine Sm.wi rfl ?_ | refine Sm.wl ?_ | refine Sm.wi (sR_sh (by omega) (by omega)) ?_ | refine Sm.wi (sR_pl (by omega) (by omega)) ?_)) h10⟩
          refine ⟨c + 1, k, by omega, hk, ?_, ?_, ?_, ?_, fun i hi => ?_, fun i hi => ?_, fun s hh hs hh2 => ?_⟩
          · simp only [r_wi, Nat.reduceEqDiff, false_and, if_false, and_self, if_true]
          · simp only [r_wi, and_self, if_true]
          · simp only [r_wi, show ¬ (3 = 5 + 2 * c) by omega, Nat.reduceEqDiff, false_and, and_false, if_false, e3]
          · simp only [r_wi, show ¬ (58 = 5 + 2 * c) by omega, Nat.reduceEqDiff, false_and, and_false, if_false, e4]
          · by_cases hic : i = c
            · subst hic
              simp only [r_wi, show ¬ (5 + 2 * i = 3) by omega, show ¬ (5 + 2 * i = 58) by omega, show ¬ (5 + 2 * i = 63) by omega, show ¬ (5 + 2 * i = 64) by omega, show ¬ (5 + 2 * i = 65) by omega, show ¬ (5 + 2 * i = 66) by omega, show ¬ (63 = 5 + 2 * i) by omega, show ¬ (64 = 5 + 2 * i) by omega, show ¬ (65 = 5 + 2 * i) by omega, show ¬ (66 = 5 + 2 * i) by omega, Nat.reduceEqDiff, false_and, and_false, if_false, and_self, if_true, true_and]
              omega
            · simp only [r_wi, show ¬ (5 + 2 * i = 5 + 2 * c) by omega, show ¬ (5 + 2 * i = 3) by omega, show ¬ (5 + 2 * i = 58) by omega, show ¬ (5 + 2 * i = 63) by omega, show ¬ (5 + 2 * i = 64) by omega, show ¬ (5 + 2 * i = 65) by omega, show ¬ (5 + 2 * i = 66) by omega, show ¬ (63 = 5 + 2 * c) by omega, show ¬ (64 = 5 + 2 * c) by omega, show ¬ (65 = 5 + 2 * c) by omega, show ¬ (66 = 5 + 2 * c) by omega, Nat.reduceEqDiff, false_and, and_false, if_false, hic]
              exact hr i (by omega)
          · simp only [r_wi, show ¬ (67 = 5 + 2 * c) by omega, show ¬ (68 = 5 + 2 * c) by omega, show ¬ (69 = 5 + 2 * c) by omega, Nat.reduceEqDiff, false_and, if_false]
            obtain ⟨⟨s, hs, es⟩, hx⟩ := hl i hi
            exact ⟨⟨s, by omega, es⟩, hx⟩
          · have r67 : (q_wi (q_wi (q_wi (q_wi (q_wi (q_wi (q_wi (q_wi (q_wi (q_wi m (5 + 2 * c) 0 x1) (5 + 2 * c) 1 x2) (5 + 2 * c) 2 x3) (5 + 2 * c) 3 x4) 3 1 (nI (c + 1))) 63 c x1) 64 c x2) 65 c x3) 66 c x4) 58 11 (nI (c + 1))).1 67 = m.1 67 := by repeat (first | rfl | rw [r_row (by omega)])
            have r68 : (q_wi (q_wi (q_wi (q_wi (q_wi (q_wi (q_wi (q_wi (q_wi (q_wi m (5 + 2 * c) 0 x1) (5 + 2 * c) 1 x2) (5 + 2 * c) 2 x3) (5 + 2 * c) 3 x4) 3 1 (nI (c + 1))) 63 c x1) 64 c x2) 65 c x3) 66 c x4) 58 11 (nI (c + 1))).1 68 = m.1 68 := by repeat (first | rfl | rw [r_row (by omega)])
            have r69 : (q_wi (q_wi (q_wi (q_wi (q_wi (q_wi (q_wi (q_wi (q_wi (q_wi m (5 + 2 * c) 0 x1) (5 + 2 * c) 1 x2) (5 + 2 * c) 2 x3) (5 + 2 * c) 3 x4) 3 1 (nI (c + 1))) 63 c x1) 64 c x2) 65 c x3) 66 c x4) 58 11 (nI (c + 1))).1 69 = m.1 69 := by repeat (first | rfl | rw [r_row (by omega)])
            have rs : (q_wi (q_wi (q_wi (q_wi (q_wi (q_wi (q_wi (q_wi (q_wi (q_wi m (5 + 2 * c) 0 x1) (5 + 2 * c) 1 x2) (5 + 2 * c) 2 x3) (5 + 2 * c) 3 x4) 3 1 (nI (c + 1))) 63 c x1) 64 c x2) 65 c x3) 66 c x4) 58 11 (nI (c + 1))).1 (5 + 2 * s + 1) = m.1 (5 + 2 * s + 1) := by repeat (first | rfl | rw [r_row (by omega)])
            rw [r67, r68, r69, rs]
            exact hb s hh hs hh2
    · refine ⟨-2, m, m, ?_, ?_, hI⟩
      · unfold f_X9_ship
        simp only [r_st9, r_within, li_m5, li_5]
        rw [if_neg (not_not_intro g1), if_pos g2]
      · unfold f_X10_ship
        simp only [r_st10, r_inn, lj_m5, lj_5]
        rw [if_neg (not_not_intro g1), if_pos g2]
  · refine ⟨-2, m, m, ?_, ?_, hI⟩
    · unfold f_X9_ship
      rw [if_pos (r_st9.mpr g1)]
    · unfold f_X10_ship
      rw [if_pos (r_st10.mpr g1)]
theorem ok_clear : q_OK_clear Inv := by
  intro x1 m hI
  by_cases g1 : 0 ≤ x1.toInt ∧ x1.toInt ≤ 3
  · obtain ⟨p, hp, rfl⟩ := r_plan g1
    obtain ⟨c, hc, e1, e2, -⟩ := hI.1 p hp
    have hi := r_in (k := p) (n := 4) hp (by decide)
    have hcl := r_cl (n := p) (by omega)
    refine ⟨nI c, q_wi m (46 + 3 * p) 2 0, q_wi (q_wi m (46 + 3 * p) 2 0) 61 p 0, ?_, ?_, ?_⟩
    · unfold f_X9_clear
      rw [if_neg (fun e => r_plan9.mp e g1), if_pos hi, if_pos hi, hcl, e1]
    · unfold f_X10_clear
      rw [if_neg (fun e => r_plan10.mp e g1), if_pos hi, if_pos hi, hcl]
      rw [show (q_wi m (46 + 3 * p) 2 0).1 61 p = nI c from by rw [r_wi, if_neg (by omega), e2]]
    · obtain ⟨h1, h2, h3, h4, h5, h6, h7, h8, h9, h10⟩ := hI
      refine ⟨?_, IS_s (by repeat (first | exact Sm.rf | refine Sm.wi rfl ?_ | refine Sm.wl ?_ | refine Sm.wi (sS_sh (by omega) (by omega)) ?_ | refine Sm.wi (sS_pl (by omega) (by omega)) ?_)) h2, IF_s (by repeat (first | exact Sm.rf | refine Sm.wi rfl ?_ | refine Sm.wl ?_ | refine Sm.wi (sF_sh (by omega) (by omega)) ?_ | refine Sm.wi (sF_pl (by omega) (by omega)) ?_)) h3, IH_s (by repeat (first | exact Sm.rf | refine Sm.wi rfl ?_ | refine Sm.wl ?_ | refine Sm.wi (sH_pl (by omega) (by omega)) ?_)) h4, IG_s (by repeat (first | exact Sm.rf | refine Sm.wi rfl ?_ | refine Sm.wl ?_ | refine Sm.wi (sG_sh (by omega) (by omega)) ?_ | refine Sm.wi (sG_pl (by omega) (by omega)) ?_)) h5, IL_s (by repeat (first | exact Sm.rf | refine Sm.wi rfl ?_ | refine Sm.wl ?_ | refine Sm.wi (sL_sh (by omega) (by omega)) ?_ | refine Sm.wi (sL_pl (by omega) (by omega)) ?_)) h6, IO_s (by repeat (first | exact Sm.rf | refine Sm.wi rfl ?_ | refine Sm.wl ?_ | refine Sm.wi (sO_sh (by omega) (by omega)) ?_ | refine Sm.wi (sO_pl (by omega) (by omega)) ?_)) h7, ID_s (by repeat (first | exact Sm.rf | refine Sm.wi rfl ?_ | refine Sm.wl ?_ | refine Sm.wi (sD_sh (by omega) (by omega)) ?_ | refine Sm.wi (sD_pl (by omega) (by omega)) ?_)) h8, IT_s (by repeat (first | exact Sm.rf | refine Sm.wi rfl ?_ | refine Sm.wl ?_ | refine Sm.wi (sT_sh (by omega) (by omega)) ?_ | refine Sm.wi (sT_pl (by omega) (by omega)) ?_)) h9, IR_s (by repeat (first | exact Sm.rf | refine Sm.wi rfl ?_ | refine Sm.wl ?_ | refine Sm.wi (sR_sh (by omega) (by omega)) ?_ | refine Sm.wi (sR_pl (by omega) (by omega)) ?_)) h10⟩
      intro p' hp'
      by_cases hpp : p' = p
      · subst hpp
        refine ⟨0, by omega, ?_, ?_, fun i hi => absurd hi (by omega), fun i j _ hj => absurd hj (by omega)⟩
        · rw [r_wi, if_neg (by omega), r_wi, if_pos ⟨rfl, rfl⟩]; rfl
        · rw [r_wi, if_pos ⟨rfl, rfl⟩]; rfl
      · obtain ⟨c', h1', h2', h3', h4', h5'⟩ := h1 p' hp'
        have r0 : (q_wi (q_wi m (46 + 3 * p) 2 0) 61 p 0).1 (46 + 3 * p') = m.1 (46 + 3 * p') := by rw [r_row (by omega), r_row (by omega)]
        have r1 : (q_wi (q_wi m (46 + 3 * p) 2 0) 61 p 0).1 (46 + 3 * p' + 1) = m.1 (46 + 3 * p' + 1) := by rw [r_row (by omega), r_row (by omega)]
        have r2 : (q_wi (q_wi m (46 + 3 * p) 2 0) 61 p 0).1 (46 + 3 * p' + 2) = m.1 (46 + 3 * p' + 2) := by rw [r_row (by omega), r_row (by omega)]
        have r3 : (q_wi (q_wi m (46 + 3 * p) 2 0) 61 p 0).1 59 = m.1 59 := by rw [r_row (by omega), r_row (by omega)]
        have r4 : (q_wi (q_wi m (46 + 3 * p) 2 0) 61 p 0).1 60 = m.1 60 := by rw [r_row (by omega), r_row (by omega)]
        rw [r0, r1, r2, r3, r4]
        refine ⟨c', h1', h2', ?_, h4', h5'⟩
        rw [r_wi, if_neg (by omega), r_wi, if_neg (by omega)]
        exact h3'
  · refine ⟨-1, m, m, ?_, ?_, hI⟩
    · unfold f_X9_clear
      rw [if_pos (r_plan9.mpr g1)]
    · unfold f_X10_clear
      rw [if_pos (r_plan10.mpr g1)]
