theorem add_X6_add {m : q_Mm} {c : Nat} (hc : c < 10) (e : m.1 28 3 = nI c) (x1 x2 x3 : Int32) : f_X6_add x1 x2 x3 m = some (q_wi (q_wi (q_wi (q_wi m 29 c x1) 30 c x2) 31 c x3) 28 3 (nI (c + 1))) := by
  have hi := r_in (k := c) (n := 10) hc (by decide)
  unfold f_X6_add
  simp only [r_wi, e, r_cl (show c < 2 ^ 31 by omega), hi, if_true, Nat.reduceEqDiff, false_and, if_false, nI_1]
theorem add_X2_add {m : q_Mm} {c : Nat} (hc : c < 12) (e : m.1 38 3 = nI c) (x1 x2 x3 : Int32) : f_X2_add x1 x2 x3 m = some (q_wi (q_wi (q_wi (q_wi m 39 c x1) 40 c x2) 41 c x3) 38 3 (nI (c + 1))) := by
  have hi := r_in (k := c) (n := 12) hc (by decide)
  unfold f_X2_add
  simp only [r_wi, e, r_cl (show c < 2 ^ 31 by omega), hi, if_true, Nat.reduceEqDiff, false_and, if_false, nI_1]
theorem ok_post : q_OK_post Inv := by
  intro x1 x2 x3 m hI
  obtain ⟨c, hc, e1, e2, hr⟩ := hI.2.2.2.2.2.2.1
  by_cases g : (-50 ≤ x1.toInt ∧ x1.toInt ≤ 50) ∧ (-50 ≤ x2.toInt ∧ x2.toInt ≤ 50) ∧ (1 ≤ x3.toInt ∧ x3.toInt ≤ 40)
  · by_cases hN : c = 10
    · subst hN
      refine ⟨-4, m, m, ?_, ?_, hI⟩
      · unfold f_X9_post
        simp only [r_within, r_inn, r_plan9, r_plan10, r_64, li_0, lj_0, li_1, lj_1, li_m1, lj_m1, li_2, lj_2, li_3, lj_3, li_4, lj_4, li_m4, lj_m4, li_5, lj_5, li_m5, lj_m5, li_6, lj_6, li_m6, lj_m6, li_7, lj_7, li_8, lj_8, li_9, lj_9, li_10, lj_10, li_11, lj_11, li_12, lj_12, li_13, lj_13, li_20, lj_20, li_31, lj_31, li_39, lj_39, li_40, lj_40, li_50, lj_50, li_m50, lj_m50, li_59, lj_59, li_60, lj_60, li_99, lj_99, li_143, lj_143, li_144, lj_144, li_600, lj_600, li_601, lj_601, li_100000, lj_100000, li_m100000, lj_m100000, li_1000000, lj_1000000, li_2000000, lj_2000000, li_m2000000, lj_m2000000, li_200000, lj_200000, li_10000000, lj_10000000, li_m10000000, lj_m10000000, li_1000, lj_1000]
        rw [if_neg (not_not_intro (show -50 ≤ x1.toInt ∧ x1.toInt ≤ 50 by omega)), if_neg (not_not_intro (show -50 ≤ x2.toInt ∧ x2.toInt ≤ 50 by omega)), if_neg (not_not_intro (show 1 ≤ x3.toInt ∧ x3.toInt ≤ 40 by omega))]
        rw [e1, if_neg (by decide)]
      · unfold f_X10_post
        simp only [r_within, r_inn, r_plan9, r_plan10, r_64, li_0, lj_0, li_1, lj_1, li_m1, lj_m1, li_2, lj_2, li_3, lj_3, li_4, lj_4, li_m4, lj_m4, li_5, lj_5, li_m5, lj_m5, li_6, lj_6, li_m6, lj_m6, li_7, lj_7, li_8, lj_8, li_9, lj_9, li_10, lj_10, li_11, lj_11, li_12, lj_12, li_13, lj_13, li_20, lj_20, li_31, lj_31, li_39, lj_39, li_40, lj_40, li_50, lj_50, li_m50, lj_m50, li_59, lj_59, li_60, lj_60, li_99, lj_99, li_143, lj_143, li_144, lj_144, li_600, lj_600, li_601, lj_601, li_100000, lj_100000, li_m100000, lj_m100000, li_1000000, lj_1000000, li_2000000, lj_2000000, li_m2000000, lj_m2000000, li_200000, lj_200000, li_10000000, lj_10000000, li_m10000000, lj_m10000000, li_1000, lj_1000]
        rw [if_neg (not_not_intro (show -50 ≤ x1.toInt ∧ x1.toInt ≤ 50 by omega)), if_neg (not_not_intro (show -50 ≤ x2.toInt ∧ x2.toInt ≤ 50 by omega)), if_neg (not_not_intro (show 1 ≤ x3.toInt ∧ x3.toInt ≤ 40 by omega))]
        rw [e2, if_pos (by decide)]
    · have hlt : c < 10 := by omega
      have hi := r_in (k := c) (n := 10) hlt (by decide)
      refine ⟨nI c, (q_wi (q_wi (q_wi (q_wi m 29 c x1) 30 c x2) 31 c x3) 28 3 (nI (c + 1))), (q_wi (q_wi (q_wi (q_wi (q_wi (q_wi (q_wi (q_wi m 29 c x1) 30 c x2) 31 c x3) 28 3 (nI (c + 1))) 77 c x1) 78 c x2) 79 c x3) 58 34 (nI (c + 1))), ?_, ?_, ?_⟩
      · unfold f_X9_post
        simp only [r_within, r_inn, r_plan9, r_plan10, r_64, li_0, lj_0, li_1, lj_1, li_m1, lj_m1, li_2, lj_2, li_3, lj_3, li_4, lj_4, li_m4, lj_m4, li_5, lj_5, li_m5, lj_m5, li_6, lj_6, li_m6, lj_m6, li_7, lj_7, li_8, lj_8, li_9, lj_9, li_10, lj_10, li_11, lj_11, li_12, lj_12, li_13, lj_13, li_20, lj_20, li_31, lj_31, li_39, lj_39, li_40, lj_40, li_50, lj_50, li_m50, lj_m50, li_59, lj_59, li_60, lj_60, li_99, lj_99, li_143, lj_143, li_144, lj_144, li_600, lj_600, li_601, lj_601, li_100000, lj_100000, li_m100000, lj_m100000, li_1000000, lj_1000000, li_2000000, lj_2000000, li_m2000000, lj_m2000000, li_200000, lj_200000, li_10000000, lj_10000000, li_m10000000, lj_m10000000, li_1000, lj_1000]
        rw [if_neg (not_not_intro (show -50 ≤ x1.toInt ∧ x1.toInt ≤ 50 by omega)), if_neg (not_not_intro (show -50 ≤ x2.toInt ∧ x2.toInt ≤ 50 by omega)), if_neg (not_not_intro (show 1 ≤ x3.toInt ∧ x3.toInt ≤ 40 by omega))]
        rw [e1, if_pos (show nI c < 10 from nI_lt hlt (by decide)), add_X6_add hlt e1]
        simp only [Option.bind_some, r_wi, and_self, if_true, nI_pred]
      · unfold f_X10_post
        simp only [r_within, r_inn, r_plan9, r_plan10, r_64, li_0, lj_0, li_1, lj_1, li_m1, lj_m1, li_2, lj_2, li_3, lj_3, li_4, lj_4, li_m4, lj_m4, li_5, lj_5, li_m5, lj_m5, li_6, lj_6, li_m6, lj_m6, li_7, lj_7, li_8, lj_8, li_9, lj_9, li_10, lj_10, li_11, lj_11, li_12, lj_12, li_13, lj_13, li_20, lj_20, li_31, lj_31, li_39, lj_39, li_40, lj_40, li_50, lj_50, li_m50, lj_m50, li_59, lj_59, li_60, lj_60, li_99, lj_99, li_143, lj_143, li_144, lj_144, li_600, lj_600, li_601, lj_601, li_100000, lj_100000, li_m100000, lj_m100000, li_1000000, lj_1000000, li_2000000, lj_2000000, li_m2000000, lj_m2000000, li_200000, lj_200000, li_10000000, lj_10000000, li_m10000000, lj_m10000000, li_1000, lj_1000]
        rw [if_neg (not_not_intro (show -50 ≤ x1.toInt ∧ x1.toInt ≤ 50 by omega)), if_neg (not_not_intro (show -50 ≤ x2.toInt ∧ x2.toInt ≤ 50 by omega)), if_neg (not_not_intro (show 1 ≤ x3.toInt ∧ x3.toInt ≤ 40 by omega))]
        have e3 : (q_wi (q_wi (q_wi (q_wi m 29 c x1) 30 c x2) 31 c x3) 28 3 (nI (c + 1))).1 58 34 = nI c := by
          simp only [r_wi, Nat.reduceEqDiff, false_and, if_false, e2]
        rw [e3, if_neg (show ¬ nI c = 10 from fun e => hN ((nI_eq (by omega) (by decide)).mp e))]
        generalize (q_wi (q_wi (q_wi (q_wi m 29 c x1) 30 c x2) 31 c x3) 28 3 (nI (c + 1))) = m1 at e3 ⊢
        simp only [r_wi, e3, r_cl (show c < 2 ^ 31 by omega), hi, if_true, Nat.reduceEqDiff, false_and, if_false, nI_1, and_self, nI_pred]
      · obtain ⟨h1, h2, h3, h4, h5, h6, h7, h8, h9, h10⟩ := hI
        refine ⟨IP_s (by repeat (first | exact Sm.rf | refine Sm.wi rfl ?_ | refine Sm.wl ?_)) h1, IS_s (by repeat (first | exact Sm.rf | refine Sm.wi rfl ?_ | refine Sm.wl ?_)) h2, IF_s (by repeat (first | exact Sm.rf | refine Sm.wi rfl ?_ | refine Sm.wl ?_)) h3, IH_s (by repeat (first | exact Sm.rf | refine Sm.wi rfl ?_ | refine Sm.wl ?_)) h4, IG_s (by repeat (first | exact Sm.rf | refine Sm.wi rfl ?_ | refine Sm.wl ?_)) h5, IL_s (by repeat (first | exact Sm.rf | refine Sm.wi rfl ?_ | refine Sm.wl ?_)) h6, ?_, ID_s (by repeat (first | exact Sm.rf | refine Sm.wi rfl ?_ | refine Sm.wl ?_)) h8, IT_s (by repeat (first | exact Sm.rf | refine Sm.wi rfl ?_ | refine Sm.wl ?_)) h9, IR_s (by repeat (first | exact Sm.rf | refine Sm.wi rfl ?_ | refine Sm.wl ?_)) h10⟩
        refine ⟨c + 1, by omega, ?_, ?_, fun i hi => ?_⟩
        · simp only [r_wi, Nat.reduceEqDiff, false_and, and_false, if_false, and_self, if_true]
        · simp only [r_wi, Nat.reduceEqDiff, false_and, and_false, if_false, and_self, if_true]
        · by_cases hic : i = c
          · subst hic
            simp only [r_wi, Nat.reduceEqDiff, false_and, and_false, if_false, and_self, if_true, true_and]
            omega
          · simp only [r_wi, Nat.reduceEqDiff, false_and, and_false, if_false, hic]
            exact hr i (by omega)
  · refine ⟨-2, m, m, ?_, ?_, hI⟩
    · unfold f_X9_post
      repeat' split
      all_goals first | rfl | (exfalso; simp only [r_within, r_inn, r_plan9, r_plan10, r_64, Classical.not_not, li_0, lj_0, li_1, lj_1, li_m1, lj_m1, li_2, lj_2, li_3, lj_3, li_4, lj_4, li_m4, lj_m4, li_5, lj_5, li_m5, lj_m5, li_6, lj_6, li_m6, lj_m6, li_7, lj_7, li_8, lj_8, li_9, lj_9, li_10, lj_10, li_11, lj_11, li_12, lj_12, li_13, lj_13, li_20, lj_20, li_31, lj_31, li_39, lj_39, li_40, lj_40, li_50, lj_50, li_m50, lj_m50, li_59, lj_59, li_60, lj_60, li_99, lj_99, li_143, lj_143, li_144, lj_144, li_600, lj_600, li_601, lj_601, li_100000, lj_100000, li_m100000, lj_m100000, li_1000000, lj_1000000, li_2000000, lj_2000000, li_m2000000, lj_m2000000, li_200000, lj_200000, li_10000000, lj_10000000, li_m10000000, lj_m10000000, li_1000, lj_1000] at *; omega)
    · unfold f_X10_post
      repeat' split
      all_goals first | rfl | (exfalso; simp only [r_within, r_inn, r_plan9, r_plan10, r_64, Classical.not_not, li_0, lj_0, li_1, lj_1, li_m1, lj_m1, li_2, lj_2, li_3, lj_3, li_4, lj_4, li_m4, lj_m4, li_5, lj_5, li_m5, lj_m5, li_6, lj_6, li_m6, lj_m6, li_7, lj_7, li_8, lj_8, li_9, lj_9, li_10, lj_10, li_11, lj_11, li_12, lj_12, li_13, lj_13, li_20, lj_20, li_31, lj_31, li_39, lj_39, li_40, lj_40, li_50, lj_50, li_m50, lj_m50, li_59, lj_59, li_60, lj_60, li_99, lj_99, li_143, lj_143, li_144, lj_144, li_600, lj_600, li_601, lj_601, li_100000, lj_100000, li_m100000, lj_m100000, li_1000000, lj_1000000, li_2000000, lj_2000000, li_m2000000, lj_m2000000, li_200000, lj_200000, li_10000000, lj_10000000, li_m10000000, lj_m10000000, li_1000, lj_1000] at *; omega)
theorem ok_sight : q_OK_sight Inv := by
  intro x1 x2 x3 m hI
  obtain ⟨c, hc, e1, e2, hr⟩ := hI.2.2.2.2.2.2.2.2.1
  by_cases g : (0 ≤ x1.toInt ∧ x1.toInt ≤ 600) ∧ (-10000000 ≤ x2.toInt ∧ x2.toInt ≤ 10000000) ∧ (-10000000 ≤ x3.toInt ∧ x3.toInt ≤ 10000000)
  · by_cases hN : c = 12
    · subst hN
      refine ⟨-4, m, m, ?_, ?_, hI⟩
      · unfold f_X9_sight
        simp only [r_within, r_inn, r_plan9, r_plan10, r_64, li_0, lj_0, li_1, lj_1, li_m1, lj_m1, li_2, lj_2, li_3, lj_3, li_4, lj_4, li_m4, lj_m4, li_5, lj_5, li_m5, lj_m5, li_6, lj_6, li_m6, lj_m6, li_7, lj_7, li_8, lj_8, li_9, lj_9, li_10, lj_10, li_11, lj_11, li_12, lj_12, li_13, lj_13, li_20, lj_20, li_31, lj_31, li_39, lj_39, li_40, lj_40, li_50, lj_50, li_m50, lj_m50, li_59, lj_59, li_60, lj_60, li_99, lj_99, li_143, lj_143, li_144, lj_144, li_600, lj_600, li_601, lj_601, li_100000, lj_100000, li_m100000, lj_m100000, li_1000000, lj_1000000, li_2000000, lj_2000000, li_m2000000, lj_m2000000, li_200000, lj_200000, li_10000000, lj_10000000, li_m10000000, lj_m10000000, li_1000, lj_1000]
        rw [if_neg (not_not_intro (show 0 ≤ x1.toInt ∧ x1.toInt ≤ 600 by omega)), if_neg (not_not_intro (show -10000000 ≤ x2.toInt ∧ x2.toInt ≤ 10000000 by omega)), if_neg (not_not_intro (show -10000000 ≤ x3.toInt ∧ x3.toInt ≤ 10000000 by omega))]
        rw [e1, if_neg (by decide)]
      · unfold f_X10_sight
        simp only [r_within, r_inn, r_plan9, r_plan10, r_64, li_0, lj_0, li_1, lj_1, li_m1, lj_m1, li_2, lj_2, li_3, lj_3, li_4, lj_4, li_m4, lj_m4, li_5, lj_5, li_m5, lj_m5, li_6, lj_6, li_m6, lj_m6, li_7, lj_7, li_8, lj_8, li_9, lj_9, li_10, lj_10, li_11, lj_11, li_12, lj_12, li_13, lj_13, li_20, lj_20, li_31, lj_31, li_39, lj_39, li_40, lj_40, li_50, lj_50, li_m50, lj_m50, li_59, lj_59, li_60, lj_60, li_99, lj_99, li_143, lj_143, li_144, lj_144, li_600, lj_600, li_601, lj_601, li_100000, lj_100000, li_m100000, lj_m100000, li_1000000, lj_1000000, li_2000000, lj_2000000, li_m2000000, lj_m2000000, li_200000, lj_200000, li_10000000, lj_10000000, li_m10000000, lj_m10000000, li_1000, lj_1000]
        rw [if_neg (not_not_intro (show 0 ≤ x1.toInt ∧ x1.toInt ≤ 600 by omega)), if_neg (not_not_intro (show -10000000 ≤ x2.toInt ∧ x2.toInt ≤ 10000000 by omega)), if_neg (not_not_intro (show -10000000 ≤ x3.toInt ∧ x3.toInt ≤ 10000000 by omega))]
        rw [e2, if_pos (by decide)]
    · have hlt : c < 12 := by omega
      have hi := r_in (k := c) (n := 12) hlt (by decide)
      refine ⟨nI (c + 1), (q_wi (q_wi (q_wi (q_wi m 39 c x1) 40 c x2) 41 c x3) 38 3 (nI (c + 1))), (q_wi (q_wi (q_wi (q_wi (q_wi (q_wi (q_wi (q_wi m 39 c x1) 40 c x2) 41 c x3) 38 3 (nI (c + 1))) 86 c x1) 87 c x2) 88 c x3) 58 47 (nI (c + 1))), ?_, ?_, ?_⟩
      · unfold f_X9_sight
        simp only [r_within, r_inn, r_plan9, r_plan10, r_64, li_0, lj_0, li_1, lj_1, li_m1, lj_m1, li_2, lj_2, li_3, lj_3, li_4, lj_4, li_m4, lj_m4, li_5, lj_5, li_m5, lj_m5, li_6, lj_6, li_m6, lj_m6, li_7, lj_7, li_8, lj_8, li_9, lj_9, li_10, lj_10, li_11, lj_11, li_12, lj_12, li_13, lj_13, li_20, lj_20, li_31, lj_31, li_39, lj_39, li_40, lj_40, li_50, lj_50, li_m50, lj_m50, li_59, lj_59, li_60, lj_60, li_99, lj_99, li_143, lj_143, li_144, lj_144, li_600, lj_600, li_601, lj_601, li_100000, lj_100000, li_m100000, lj_m100000, li_1000000, lj_1000000, li_2000000, lj_2000000, li_m2000000, lj_m2000000, li_200000, lj_200000, li_10000000, lj_10000000, li_m10000000, lj_m10000000, li_1000, lj_1000]
        rw [if_neg (not_not_intro (show 0 ≤ x1.toInt ∧ x1.toInt ≤ 600 by omega)), if_neg (not_not_intro (show -10000000 ≤ x2.toInt ∧ x2.toInt ≤ 10000000 by omega)), if_neg (not_not_intro (show -10000000 ≤ x3.toInt ∧ x3.toInt ≤ 10000000 by omega))]
        rw [e1, if_pos (show nI c < 12 from nI_lt hlt (by decide)), add_X2_add hlt e1]
        simp only [Option.bind_some, r_wi, and_self, if_true, nI_pred]
      · unfold f_X10_sight
        simp only [r_within, r_inn, r_plan9, r_plan10, r_64, li_0, lj_0, li_1, lj_1, li_m1, lj_m1, li_2, lj_2, li_3, lj_3, li_4, lj_4, li_m4, lj_m4, li_5, lj_5, li_m5, lj_m5, li_6, lj_6, li_m6, lj_m6, li_7, lj_7, li_8, lj_8, li_9, lj_9, li_10, lj_10, li_11, lj_11, li_12, lj_12, li_13, lj_13, li_20, lj_20, li_31, lj_31, li_39, lj_39, li_40, lj_40, li_50, lj_50, li_m50, lj_m50, li_59, lj_59, li_60, lj_60, li_99, lj_99, li_143, lj_143, li_144, lj_144, li_600, lj_600, li_601, lj_601, li_100000, lj_100000, li_m100000, lj_m100000, li_1000000, lj_1000000, li_2000000, lj_2000000, li_m2000000, lj_m2000000, li_200000, lj_200000, li_10000000, lj_10000000, li_m10000000, lj_m10000000, li_1000, lj_1000]
        rw [if_neg (not_not_intro (show 0 ≤ x1.toInt ∧ x1.toInt ≤ 600 by omega)), if_neg (not_not_intro (show -10000000 ≤ x2.toInt ∧ x2.toInt ≤ 10000000 by omega)), if_neg (not_not_intro (show -10000000 ≤ x3.toInt ∧ x3.toInt ≤ 10000000 by omega))]
        have e3 : (q_wi (q_wi (q_wi (q_wi m 39 c x1) 40 c x2) 41 c x3) 38 3 (nI (c + 1))).1 58 47 = nI c := by
          simp only [r_wi, Nat.reduceEqDiff, false_and, if_false, e2]
        rw [e3, if_neg (show ¬ nI c = 12 from fun e => hN ((nI_eq (by omega) (by decide)).mp e))]
        generalize (q_wi (q_wi (q_wi (q_wi m 39 c x1) 40 c x2) 41 c x3) 38 3 (nI (c + 1))) = m1 at e3 ⊢
        simp only [r_wi, e3, r_cl (show c < 2 ^ 31 by omega), hi, if_true, Nat.reduceEqDiff, false_and, if_false, nI_1, and_self, nI_pred]
      · obtain ⟨h1, h2, h3, h4, h5, h6, h7, h8, h9, h10⟩ := hI
        refine ⟨IP_s (by repeat (first | exact Sm.rf | refine Sm.wi rfl ?_ | refine Sm.wl ?_)) h1, IS_s (by repeat (first | exact Sm.rf | refine Sm.wi rfl ?_ | refine Sm.wl ?_)) h2, IF_s (by repeat (first | exact Sm.rf | refine Sm.wi rfl ?_ | refine Sm.wl ?_)) h3, IH_s (by repeat (first | exact Sm.rf | refine Sm.wi rfl ?_ | refine Sm.wl ?_)) h4, IG_s (by repeat (first | exact Sm.rf | refine Sm.wi rfl ?_ | refine Sm.wl ?_)) h5, IL_s (by repeat (first | exact Sm.rf | refine Sm.wi rfl ?_ | refine Sm.wl ?_)) h6, IO_s (by repeat (first | exact Sm.rf | refine Sm.wi rfl ?_ | refine Sm.wl ?_)) h7, ID_s (by repeat (first | exact Sm.rf | refine Sm.wi rfl ?_ | refine Sm.wl ?_)) h8, ?_, IR_s (by repeat (first | exact Sm.rf | refine Sm.wi rfl ?_ | refine Sm.wl ?_)) h10⟩
        refine ⟨c + 1, by omega, ?_, ?_, fun i hi => ?_⟩
        · simp only [r_wi, Nat.reduceEqDiff, false_and, and_false, if_false, and_self, if_true]
        · simp only [r_wi, Nat.reduceEqDiff, false_and, and_false, if_false, and_self, if_true]
        · by_cases hic : i = c
          · subst hic
            simp only [r_wi, Nat.reduceEqDiff, false_and, and_false, if_false, and_self, if_true, true_and]
            omega
          · simp only [r_wi, Nat.reduceEqDiff, false_and, and_false, if_false, hic]
            exact hr i (by omega)
  · refine ⟨-2, m, m, ?_, ?_, hI⟩
    · unfold f_X9_sight
      repeat' split
      all_goals first | rfl | (exfalso; simp only [r_within, r_inn, r_plan9, r_plan10, r_64, Classical.not_not, li_0, lj_0, li_1, lj_1, li_m1, lj_m1, li_2, lj_2, li_3, lj_3, li_4, lj_4, li_m4, lj_m4, li_5, lj_5, li_m5, lj_m5, li_6, lj_6, li_m6, lj_m6, li_7, lj_7, li_8, lj_8, li_9, lj_9, li_10, lj_10, li_11, lj_11, li_12, lj_12, li_13, lj_13, li_20, lj_20, li_31, lj_31, li_39, lj_39, li_40, lj_40, li_50, lj_50, li_m50, lj_m50, li_59, lj_59, li_60, lj_60, li_99, lj_99, li_143, lj_143, li_144, lj_144, li_600, lj_600, li_601, lj_601, li_100000, lj_100000, li_m100000, lj_m100000, li_1000000, lj_1000000, li_2000000, lj_2000000, li_m2000000, lj_m2000000, li_200000, lj_200000, li_10000000, lj_10000000, li_m10000000, lj_m10000000, li_1000, lj_1000] at *; omega)
    · unfold f_X10_sight
      repeat' split
      all_goals first | rfl | (exfalso; simp only [r_within, r_inn, r_plan9, r_plan10, r_64, Classical.not_not, li_0, lj_0, li_1, lj_1, li_m1, lj_m1, li_2, lj_2, li_3, lj_3, li_4, lj_4, li_m4, lj_m4, li_5, lj_5, li_m5, lj_m5, li_6, lj_6, li_m6, lj_m6, li_7, lj_7, li_8, lj_8, li_9, lj_9, li_10, lj_10, li_11, lj_11, li_12, lj_12, li_13, lj_13, li_20, lj_20, li_31, lj_31, li_39, lj_39, li_40, lj_40, li_50, lj_50, li_m50, lj_m50, li_59, lj_59, li_60, lj_60, li_99, lj_99, li_143, lj_143, li_144, lj_144, li_600, lj_600, li_601, lj_601, li_100000, lj_100000, li_m100000, lj_m100000, li_1000000, lj_1000000, li_2000000, lj_2000000, li_m2000000, lj_m2000000, li_200000, lj_200000, li_10000000, lj_10000000, li_m10000000, lj_m10000000, li_1000, lj_1000] at *; omega)
theorem r_plan {x : Int32} (h : 0 ≤ x.toInt ∧ x.toInt ≤ 3) : ∃ p : Nat, p < 4 ∧ x = nI p := r_of h.1 (n := 4) (by omega) (by decide)
theorem ok_ofTurn : q_OK_ofTurn Inv := by
  intro x1 x2 x3 m hI
  by_cases g1 : 0 ≤ x1.toInt ∧ x1.toInt ≤ 3
  · obtain ⟨p, hp, rfl⟩ := r_plan g1
    obtain ⟨c, hc, e1, e2, hr, -⟩ := hI.1 p hp
    have hi := r_in (k := p) (n := 4) hp (by decide)
    have hcl := r_cl (n := p) (by omega)
    have hm1 : (nI c - 1).toInt = (c : Int) - 1 := pk_sub_toInt (b := 1) (by omega) (by decide)
    have u9 : f_X9_ofTurn (nI p) x2 x3 m = if ¬ (0 ≤ x2.toInt ∧ x2.toInt ≤ (c : Int) - 1) then some (-101) else if ¬ (0 ≤ x3.toInt ∧ x3.toInt ≤ 1) then some (-102) else if x3 = 0 then (if q_in x2 12 = true then some (m.1 (46 + 3 * p + 1) x2.toNatClampNeg) else none) else (if q_in x2 12 = true then some (m.1 (46 + 3 * p + 2) x2.toNatClampNeg) else none) := by
      unfold f_X9_ofTurn
      rw [if_neg (fun e => r_plan9.mp e g1)]
      simp only [hi, if_true, hcl, e1, r_within, hm1, li_0, li_1]
    have u10 : f_X10_ofTurn (nI p) x2 x3 m = if ¬ (0 ≤ x2.toInt ∧ x2.toInt ≤ (c : Int) - 1) then some (-101) else if x3 = 0 then (if q_in (12 * nI p + x2) 48 = true then some (m.1 59 (12 * nI p + x2).toNatClampNeg) else none) else if x3 = 1 then (if q_in (12 * nI p + x2) 48 = true then some (m.1 60 (12 * nI p + x2).toNatClampNeg) else none) else some (-102) := by
      unfold f_X10_ofTurn
      rw [if_neg (fun e => r_plan10.mp e g1)]
      simp only [hi, if_true, hcl, e2, r_inn, r_64, hm1, lj_0]
    by_cases g2 : 0 ≤ x2.toInt ∧ x2.toInt ≤ (c : Int) - 1
    · obtain ⟨i, hic, rfl⟩ := r_of g2.1 (n := c) (by omega) (by omega)
      have h12 : 12 * nI p + nI i = nI (12 * p + i) := by rw [show (12 : Int32) = nI 12 from rfl, pk_mul, nI_add]
      rw [h12, r_cl (show 12 * p + i < 2 ^ 31 by omega), r_in (show 12 * p + i < 48 by omega) (by decide)] at u10
      rw [r_cl (show i < 2 ^ 31 by omega), r_in (show i < 12 by omega) (by decide)] at u9
      rw [if_neg (not_not_intro g2)] at u9 u10
      obtain ⟨a1, a2, -⟩ := hr i hic
      by_cases z0 : x3 = 0
      · subst z0
        refine ⟨m.1 (46 + 3 * p + 1) i, ?_, ?_, hI⟩
        · rw [u9, if_neg (by decide), if_pos rfl, if_pos rfl]
        · rw [u10, if_pos rfl, if_pos rfl, a1]
      · by_cases z1 : x3 = 1
        · subst z1
          refine ⟨m.1 (46 + 3 * p + 2) i, ?_, ?_, hI⟩
          · rw [u9, if_neg (by decide), if_neg (by decide), if_pos rfl]
          · rw [u10, if_neg (by decide), if_pos rfl, if_pos rfl, a2]
        · refine ⟨-102, ?_, ?_, hI⟩
          · rw [u9, if_pos]
            intro h
            have a : ¬ x3.toInt = 0 := fun e => z0 (r_eq.mpr e)
            have b : ¬ x3.toInt = 1 := fun e => z1 (r_eq.mpr e)
            omega
          · rw [u10, if_neg z0, if_neg z1]
    · refine ⟨-101, ?_, ?_, hI⟩
      · rw [u9, if_pos g2]
      · rw [u10, if_pos g2]
  · refine ⟨-101, ?_, ?_, hI⟩
    · unfold f_X9_ofTurn
      rw [if_pos (r_plan9.mpr g1)]
    · unfold f_X10_ofTurn
      rw [if_pos (r_plan10.mpr g1)]
