theorem li_0 : (0 : Int32).toInt = 0 := rfl
theorem lj_0 : (0 : Int64).toInt = 0 := rfl
theorem li_1 : (1 : Int32).toInt = 1 := rfl
theorem lj_1 : (1 : Int64).toInt = 1 := rfl
theorem li_m1 : (-1 : Int32).toInt = -1 := rfl
theorem lj_m1 : (-1 : Int64).toInt = -1 := rfl
theorem li_2 : (2 : Int32).toInt = 2 := rfl
theorem lj_2 : (2 : Int64).toInt = 2 := rfl
theorem li_3 : (3 : Int32).toInt = 3 := rfl
theorem lj_3 : (3 : Int64).toInt = 3 := rfl
theorem li_4 : (4 : Int32).toInt = 4 := rfl
theorem lj_4 : (4 : Int64).toInt = 4 := rfl
theorem li_m4 : (-4 : Int32).toInt = -4 := rfl
theorem lj_m4 : (-4 : Int64).toInt = -4 := rfl
theorem li_5 : (5 : Int32).toInt = 5 := rfl
theorem lj_5 : (5 : Int64).toInt = 5 := rfl
theorem li_m5 : (-5 : Int32).toInt = -5 := rfl
theorem lj_m5 : (-5 : Int64).toInt = -5 := rfl
theorem li_6 : (6 : Int32).toInt = 6 := rfl
theorem lj_6 : (6 : Int64).toInt = 6 := rfl
theorem li_m6 : (-6 : Int32).toInt = -6 := rfl
theorem lj_m6 : (-6 : Int64).toInt = -6 := rfl
theorem li_7 : (7 : Int32).toInt = 7 := rfl
theorem lj_7 : (7 : Int64).toInt = 7 := rfl
theorem li_8 : (8 : Int32).toInt = 8 := rfl
theorem lj_8 : (8 : Int64).toInt = 8 := rfl
theorem li_9 : (9 : Int32).toInt = 9 := rfl
theorem lj_9 : (9 : Int64).toInt = 9 := rfl
theorem li_10 : (10 : Int32).toInt = 10 := rfl
theorem lj_10 : (10 : Int64).toInt = 10 := rfl
theorem li_11 : (11 : Int32).toInt = 11 := rfl
theorem lj_11 : (11 : Int64).toInt = 11 := rfl
theorem li_12 : (12 : Int32).toInt = 12 := rfl
theorem lj_12 : (12 : Int64).toInt = 12 := rfl
theorem li_13 : (13 : Int32).toInt = 13 := rfl
theorem lj_13 : (13 : Int64).toInt = 13 := rfl
theorem li_20 : (20 : Int32).toInt = 20 := rfl
theorem lj_20 : (20 : Int64).toInt = 20 := rfl
theorem li_31 : (31 : Int32).toInt = 31 := rfl
theorem lj_31 : (31 : Int64).toInt = 31 := rfl
theorem li_39 : (39 : Int32).toInt = 39 := rfl
theorem lj_39 : (39 : Int64).toInt = 39 := rfl
theorem li_40 : (40 : Int32).toInt = 40 := rfl
theorem lj_40 : (40 : Int64).toInt = 40 := rfl
theorem li_50 : (50 : Int32).toInt = 50 := rfl
theorem lj_50 : (50 : Int64).toInt = 50 := rfl
theorem li_m50 : (-50 : Int32).toInt = -50 := rfl
theorem lj_m50 : (-50 : Int64).toInt = -50 := rfl
theorem li_59 : (59 : Int32).toInt = 59 := rfl
theorem lj_59 : (59 : Int64).toInt = 59 := rfl
theorem li_60 : (60 : Int32).toInt = 60 := rfl
theorem lj_60 : (60 : Int64).toInt = 60 := rfl
theorem li_99 : (99 : Int32).toInt = 99 := rfl
theorem lj_99 : (99 : Int64).toInt = 99 := rfl
theorem li_143 : (143 : Int32).toInt = 143 := rfl
theorem lj_143 : (143 : Int64).toInt = 143 := rfl
theorem li_144 : (144 : Int32).toInt = 144 := rfl
theorem lj_144 : (144 : Int64).toInt = 144 := rfl
theorem li_600 : (600 : Int32).toInt = 600 := rfl
theorem lj_600 : (600 : Int64).toInt = 600 := rfl
theorem li_601 : (601 : Int32).toInt = 601 := rfl
theorem lj_601 : (601 : Int64).toInt = 601 := rfl
theorem li_100000 : (100000 : Int32).toInt = 100000 := rfl
theorem lj_100000 : (100000 : Int64).toInt = 100000 := rfl
theorem li_m100000 : (-100000 : Int32).toInt = -100000 := rfl
theorem lj_m100000 : (-100000 : Int64).toInt = -100000 := rfl
theorem li_1000000 : (1000000 : Int32).toInt = 1000000 := rfl
theorem lj_1000000 : (1000000 : Int64).toInt = 1000000 := rfl
theorem li_2000000 : (2000000 : Int32).toInt = 2000000 := rfl
theorem lj_2000000 : (2000000 : Int64).toInt = 2000000 := rfl
theorem li_m2000000 : (-2000000 : Int32).toInt = -2000000 := rfl
theorem lj_m2000000 : (-2000000 : Int64).toInt = -2000000 := rfl
theorem li_200000 : (200000 : Int32).toInt = 200000 := rfl
theorem lj_200000 : (200000 : Int64).toInt = 200000 := rfl
theorem li_10000000 : (10000000 : Int32).toInt = 10000000 := rfl
theorem lj_10000000 : (10000000 : Int64).toInt = 10000000 := rfl
theorem li_m10000000 : (-10000000 : Int32).toInt = -10000000 := rfl
theorem lj_m10000000 : (-10000000 : Int64).toInt = -10000000 := rfl
theorem li_1000 : (1000 : Int32).toInt = 1000 := rfl
theorem lj_1000 : (1000 : Int64).toInt = 1000 := rfl
theorem ok_fog : q_OK_fog Inv := by
  intro x1 x2 m hI
  by_cases g : 0 ≤ x1.toInt ∧ x1.toInt ≤ x2.toInt ∧ x2.toInt ≤ 600
  · refine ⟨1, q_wi (q_wi m 2 0 x1) 2 1 x2, q_wi (q_wi (q_wi (q_wi m 2 0 x1) 2 1 x2) 58 16 x1) 58 17 x2, ?_, ?_, ?_⟩
    · unfold f_X9_fog
      simp only [r_within, r_inn, r_plan9, r_plan10, r_64, li_0, lj_0, li_1, lj_1, li_m1, lj_m1, li_2, lj_2, li_3, lj_3, li_4, lj_4, li_m4, lj_m4, li_5, lj_5, li_m5, lj_m5, li_6, lj_6, li_m6, lj_m6, li_7, lj_7, li_8, lj_8, li_9, lj_9, li_10, lj_10, li_11, lj_11, li_12, lj_12, li_13, lj_13, li_20, lj_20, li_31, lj_31, li_39, lj_39, li_40, lj_40, li_50, lj_50, li_m50, lj_m50, li_59, lj_59, li_60, lj_60, li_99, lj_99, li_143, lj_143, li_144, lj_144, li_600, lj_600, li_601, lj_601, li_100000, lj_100000, li_m100000, lj_m100000, li_1000000, lj_1000000, li_2000000, lj_2000000, li_m2000000, lj_m2000000, li_200000, lj_200000, li_10000000, lj_10000000, li_m10000000, lj_m10000000, li_1000, lj_1000]
      rw [if_neg (not_not_intro (show 0 ≤ x1.toInt ∧ x1.toInt ≤ 600 by omega)), if_neg (not_not_intro (show x1.toInt ≤ x2.toInt ∧ x2.toInt ≤ 600 by omega))]
    · unfold f_X10_fog
      simp only [r_within, r_inn, r_plan9, r_plan10, r_64, li_0, lj_0, li_1, lj_1, li_m1, lj_m1, li_2, lj_2, li_3, lj_3, li_4, lj_4, li_m4, lj_m4, li_5, lj_5, li_m5, lj_m5, li_6, lj_6, li_m6, lj_m6, li_7, lj_7, li_8, lj_8, li_9, lj_9, li_10, lj_10, li_11, lj_11, li_12, lj_12, li_13, lj_13, li_20, lj_20, li_31, lj_31, li_39, lj_39, li_40, lj_40, li_50, lj_50, li_m50, lj_m50, li_59, lj_59, li_60, lj_60, li_99, lj_99, li_143, lj_143, li_144, lj_144, li_600, lj_600, li_601, lj_601, li_100000, lj_100000, li_m100000, lj_m100000, li_1000000, lj_1000000, li_2000000, lj_2000000, li_m2000000, lj_m2000000, li_200000, lj_200000, li_10000000, lj_10000000, li_m10000000, lj_m10000000, li_1000, lj_1000]
      rw [if_neg (not_not_intro (show 0 ≤ x1.toInt ∧ x1.toInt ≤ x2.toInt by omega)), if_neg (not_not_intro (show 0 ≤ x2.toInt ∧ x2.toInt ≤ 600 by omega))]
    · obtain ⟨h1, h2, h3, h4, h5, h6, h7, h8, h9, h10⟩ := hI
      refine ⟨IP_s (by repeat (first | exact Sm.rf | refine Sm.wi rfl ?_ | refine Sm.wl ?_)) h1, IS_s (by repeat (first | exact Sm.rf | refine Sm.wi rfl ?_ | refine Sm.wl ?_)) h2, ?_, IH_s (by repeat (first | exact Sm.rf | refine Sm.wi rfl ?_ | refine Sm.wl ?_)) h4, IG_s (by repeat (first | exact Sm.rf | refine Sm.wi rfl ?_ | refine Sm.wl ?_)) h5, IL_s (by repeat (first | exact Sm.rf | refine Sm.wi rfl ?_ | refine Sm.wl ?_)) h6, IO_s (by repeat (first | exact Sm.rf | refine Sm.wi rfl ?_ | refine Sm.wl ?_)) h7, ID_s (by repeat (first | exact Sm.rf | refine Sm.wi rfl ?_ | refine Sm.wl ?_)) h8, IT_s (by repeat (first | exact Sm.rf | refine Sm.wi rfl ?_ | refine Sm.wl ?_)) h9, IR_s (by repeat (first | exact Sm.rf | refine Sm.wi rfl ?_ | refine Sm.wl ?_)) h10⟩
      exact ⟨rfl, rfl, g⟩
  · refine ⟨-2, m, m, ?_, ?_, hI⟩
    · unfold f_X9_fog
      repeat' split
      all_goals first | rfl | (exfalso; simp only [r_within, r_inn, r_plan9, r_plan10, r_64, Classical.not_not, li_0, lj_0, li_1, lj_1, li_m1, lj_m1, li_2, lj_2, li_3, lj_3, li_4, lj_4, li_m4, lj_m4, li_5, lj_5, li_m5, lj_m5, li_6, lj_6, li_m6, lj_m6, li_7, lj_7, li_8, lj_8, li_9, lj_9, li_10, lj_10, li_11, lj_11, li_12, lj_12, li_13, lj_13, li_20, lj_20, li_31, lj_31, li_39, lj_39, li_40, lj_40, li_50, lj_50, li_m50, lj_m50, li_59, lj_59, li_60, lj_60, li_99, lj_99, li_143, lj_143, li_144, lj_144, li_600, lj_600, li_601, lj_601, li_100000, lj_100000, li_m100000, lj_m100000, li_1000000, lj_1000000, li_2000000, lj_2000000, li_m2000000, lj_m2000000, li_200000, lj_200000, li_10000000, lj_10000000, li_m10000000, lj_m10000000, li_1000, lj_1000] at *; omega)
    · unfold f_X10_fog
      repeat' split
      all_goals first | rfl | (exfalso; simp only [r_within, r_inn, r_plan9, r_plan10, r_64, Classical.not_not, li_0, lj_0, li_1, lj_1, li_m1, lj_m1, li_2, lj_2, li_3, lj_3, li_4, lj_4, li_m4, lj_m4, li_5, lj_5, li_m5, lj_m5, li_6, lj_6, li_m6, lj_m6, li_7, lj_7, li_8, lj_8, li_9, lj_9, li_10, lj_10, li_11, lj_11, li_12, lj_12, li_13, lj_13, li_20, lj_20, li_31, lj_31, li_39, lj_39, li_40, lj_40, li_50, lj_50, li_m50, lj_m50, li_59, lj_59, li_60, lj_60, li_99, lj_99, li_143, lj_143, li_144, lj_144, li_600, lj_600, li_601, lj_601, li_100000, lj_100000, li_m100000, lj_m100000, li_1000000, lj_1000000, li_2000000, lj_2000000, li_m2000000, lj_m2000000, li_200000, lj_200000, li_10000000, lj_10000000, li_m10000000, lj_m10000000, li_1000, lj_1000] at *; omega)
theorem ok_centre : q_OK_centre Inv := by
  intro x1 m hI
  by_cases g : 1 ≤ x1.toInt ∧ x1.toInt ≤ 20
  · refine ⟨m.1 0 4, q_wi m 0 4 x1, q_wi (q_wi m 0 4 x1) 58 20 x1, ?_, ?_, ?_⟩
    · unfold f_X9_centre
      simp only [r_within, r_inn, r_plan9, r_plan10, r_64, li_0, lj_0, li_1, lj_1, li_m1, lj_m1, li_2, lj_2, li_3, lj_3, li_4, lj_4, li_m4, lj_m4, li_5, lj_5, li_m5, lj_m5, li_6, lj_6, li_m6, lj_m6, li_7, lj_7, li_8, lj_8, li_9, lj_9, li_10, lj_10, li_11, lj_11, li_12, lj_12, li_13, lj_13, li_20, lj_20, li_31, lj_31, li_39, lj_39, li_40, lj_40, li_50, lj_50, li_m50, lj_m50, li_59, lj_59, li_60, lj_60, li_99, lj_99, li_143, lj_143, li_144, lj_144, li_600, lj_600, li_601, lj_601, li_100000, lj_100000, li_m100000, lj_m100000, li_1000000, lj_1000000, li_2000000, lj_2000000, li_m2000000, lj_m2000000, li_200000, lj_200000, li_10000000, lj_10000000, li_m10000000, lj_m10000000, li_1000, lj_1000]
      rw [if_neg (not_not_intro (show 1 ≤ x1.toInt ∧ x1.toInt ≤ 20 by omega))]
    · unfold f_X10_centre
      simp only [r_within, r_inn, r_plan9, r_plan10, r_64, li_0, lj_0, li_1, lj_1, li_m1, lj_m1, li_2, lj_2, li_3, lj_3, li_4, lj_4, li_m4, lj_m4, li_5, lj_5, li_m5, lj_m5, li_6, lj_6, li_m6, lj_m6, li_7, lj_7, li_8, lj_8, li_9, lj_9, li_10, lj_10, li_11, lj_11, li_12, lj_12, li_13, lj_13, li_20, lj_20, li_31, lj_31, li_39, lj_39, li_40, lj_40, li_50, lj_50, li_m50, lj_m50, li_59, lj_59, li_60, lj_60, li_99, lj_99, li_143, lj_143, li_144, lj_144, li_600, lj_600, li_601, lj_601, li_100000, lj_100000, li_m100000, lj_m100000, li_1000000, lj_1000000, li_2000000, lj_2000000, li_m2000000, lj_m2000000, li_200000, lj_200000, li_10000000, lj_10000000, li_m10000000, lj_m10000000, li_1000, lj_1000]
      rw [if_neg (not_not_intro (show 1 ≤ x1.toInt ∧ x1.toInt ≤ 20 by omega))]
      rw [hI.2.2.2.2.2.1.1]
      rfl
    · obtain ⟨h1, h2, h3, h4, h5, h6, h7, h8, h9, h10⟩ := hI
      refine ⟨IP_s (by repeat (first | exact Sm.rf | refine Sm.wi rfl ?_ | refine Sm.wl ?_)) h1, IS_s (by repeat (first | exact Sm.rf | refine Sm.wi rfl ?_ | refine Sm.wl ?_)) h2, IF_s (by repeat (first | exact Sm.rf | refine Sm.wi rfl ?_ | refine Sm.wl ?_)) h3, IH_s (by repeat (first | exact Sm.rf | refine Sm.wi rfl ?_ | refine Sm.wl ?_)) h4, IG_s (by repeat (first | exact Sm.rf | refine Sm.wi rfl ?_ | refine Sm.wl ?_)) h5, ?_, IO_s (by repeat (first | exact Sm.rf | refine Sm.wi rfl ?_ | refine Sm.wl ?_)) h7, ID_s (by repeat (first | exact Sm.rf | refine Sm.wi rfl ?_ | refine Sm.wl ?_)) h8, IT_s (by repeat (first | exact Sm.rf | refine Sm.wi rfl ?_ | refine Sm.wl ?_)) h9, IR_s (by repeat (first | exact Sm.rf | refine Sm.wi rfl ?_ | refine Sm.wl ?_)) h10⟩
      obtain ⟨e1, e2, e3, e4, e5, e6, e7, e8⟩ := h6
      exact ⟨rfl, e2, e3, e4, e5, g.1, g.2, e8⟩
  · refine ⟨-2, m, m, ?_, ?_, hI⟩
    · unfold f_X9_centre
      repeat' split
      all_goals first | rfl | (exfalso; simp only [r_within, r_inn, r_plan9, r_plan10, r_64, Classical.not_not, li_0, lj_0, li_1, lj_1, li_m1, lj_m1, li_2, lj_2, li_3, lj_3, li_4, lj_4, li_m4, lj_m4, li_5, lj_5, li_m5, lj_m5, li_6, lj_6, li_m6, lj_m6, li_7, lj_7, li_8, lj_8, li_9, lj_9, li_10, lj_10, li_11, lj_11, li_12, lj_12, li_13, lj_13, li_20, lj_20, li_31, lj_31, li_39, lj_39, li_40, lj_40, li_50, lj_50, li_m50, lj_m50, li_59, lj_59, li_60, lj_60, li_99, lj_99, li_143, lj_143, li_144, lj_144, li_600, lj_600, li_601, lj_601, li_100000, lj_100000, li_m100000, lj_m100000, li_1000000, lj_1000000, li_2000000, lj_2000000, li_m2000000, lj_m2000000, li_200000, lj_200000, li_10000000, lj_10000000, li_m10000000, lj_m10000000, li_1000, lj_1000] at *; omega)
    · unfold f_X10_centre
      repeat' split
      all_goals first | rfl | (exfalso; simp only [r_within, r_inn, r_plan9, r_plan10, r_64, Classical.not_not, li_0, lj_0, li_1, lj_1, li_m1, lj_m1, li_2, lj_2, li_3, lj_3, li_4, lj_4, li_m4, lj_m4, li_5, lj_5, li_m5, lj_m5, li_6, lj_6, li_m6, lj_m6, li_7, lj_7, li_8, lj_8, li_9, lj_9, li_10, lj_10, li_11, lj_11, li_12, lj_12, li_13, lj_13, li_20, lj_20, li_31, lj_31, li_39, lj_39, li_40, lj_40, li_50, lj_50, li_m50, lj_m50, li_59, lj_59, li_60, lj_60, li_99, lj_99, li_143, lj_143, li_144, lj_144, li_600, lj_600, li_601, lj_601, li_100000, lj_100000, li_m100000, lj_m100000, li_1000000, lj_1000000, li_2000000, lj_2000000, li_m2000000, lj_m2000000, li_200000, lj_200000, li_10000000, lj_10000000, li_m10000000, lj_m10000000, li_1000, lj_1000] at *; omega)
theorem ok_lurk : q_OK_lurk Inv := by
  intro x1 x2 x3 x4 m hI
  by_cases g : -2000000 ≤ x1.toInt ∧ x1.toInt ≤ 2000000 ∧ -2000000 ≤ x2.toInt ∧ x2.toInt ≤ 2000000 ∧ 1 ≤ x3.toInt ∧ x3.toInt ≤ 20 ∧ 0 ≤ x4.toInt ∧ x4.toInt ≤ 200000
  · refine ⟨1, q_wi (q_wi (q_wi (q_wi m 23 0 x1) 23 1 x2) 23 2 x3) 23 3 x4, q_wi (q_wi (q_wi (q_wi (q_wi (q_wi (q_wi (q_wi m 23 0 x1) 23 1 x2) 23 2 x3) 23 3 x4) 58 21 x1) 58 22 x2) 58 23 x3) 58 24 x4, ?_, ?_, ?_⟩
    · unfold f_X9_lurk
      simp only [r_within, r_inn, r_plan9, r_plan10, r_64, li_0, lj_0, li_1, lj_1, li_m1, lj_m1, li_2, lj_2, li_3, lj_3, li_4, lj_4, li_m4, lj_m4, li_5, lj_5, li_m5, lj_m5, li_6, lj_6, li_m6, lj_m6, li_7, lj_7, li_8, lj_8, li_9, lj_9, li_10, lj_10, li_11, lj_11, li_12, lj_12, li_13, lj_13, li_20, lj_20, li_31, lj_31, li_39, lj_39, li_40, lj_40, li_50, lj_50, li_m50, lj_m50, li_59, lj_59, li_60, lj_60, li_99, lj_99, li_143, lj_143, li_144, lj_144, li_600, lj_600, li_601, lj_601, li_100000, lj_100000, li_m100000, lj_m100000, li_1000000, lj_1000000, li_2000000, lj_2000000, li_m2000000, lj_m2000000, li_200000, lj_200000, li_10000000, lj_10000000, li_m10000000, lj_m10000000, li_1000, lj_1000]
      rw [if_neg (not_not_intro (show -2000000 ≤ x1.toInt ∧ x1.toInt ≤ 2000000 by omega)), if_neg (not_not_intro (show -2000000 ≤ x2.toInt ∧ x2.toInt ≤ 2000000 by omega)), if_neg (not_not_intro (show 1 ≤ x3.toInt ∧ x3.toInt ≤ 20 by omega)), if_neg (not_not_intro (show 0 ≤ x4.toInt ∧ x4.toInt ≤ 200000 by omega))]
    · unfold f_X10_lurk
      simp only [r_within, r_inn, r_plan9, r_plan10, r_64, li_0, lj_0, li_1, lj_1, li_m1, lj_m1, li_2, lj_2, li_3, lj_3, li_4, lj_4, li_m4, lj_m4, li_5, lj_5, li_m5, lj_m5, li_6, lj_6, li_m6, lj_m6, li_7, lj_7, li_8, lj_8, li_9, lj_9, li_10, lj_10, li_11, lj_11, li_12, lj_12, li_13, lj_13, li_20, lj_20, li_31, lj_31, li_39, lj_39, li_40, lj_40, li_50, lj_50, li_m50, lj_m50, li_59, lj_59, li_60, lj_60, li_99, lj_99, li_143, lj_143, li_144, lj_144, li_600, lj_600, li_601, lj_601, li_100000, lj_100000, li_m100000, lj_m100000, li_1000000, lj_1000000, li_2000000, lj_2000000, li_m2000000, lj_m2000000, li_200000, lj_200000, li_10000000, lj_10000000, li_m10000000, lj_m10000000, li_1000, lj_1000]
      rw [if_neg (not_not_intro (show -2000000 ≤ x1.toInt ∧ x1.toInt ≤ 2000000 by omega)), if_neg (not_not_intro (show -2000000 ≤ x2.toInt ∧ x2.toInt ≤ 2000000 by omega)), if_neg (not_not_intro (show 1 ≤ x3.toInt ∧ x3.toInt ≤ 20 by omega)), if_neg (not_not_intro (show 0 ≤ x4.toInt ∧ x4.toInt ≤ 200000 by omega))]
    · obtain ⟨h1, h2, h3, h4, h5, h6, h7, h8, h9, h10⟩ := hI
      refine ⟨IP_s (by repeat (first | exact Sm.rf | refine Sm.wi rfl ?_ | refine Sm.wl ?_)) h1, IS_s (by repeat (first | exact Sm.rf | refine Sm.wi rfl ?_ | refine Sm.wl ?_)) h2, IF_s (by repeat (first | exact Sm.rf | refine Sm.wi rfl ?_ | refine Sm.wl ?_)) h3, IH_s (by repeat (first | exact Sm.rf | refine Sm.wi rfl ?_ | refine Sm.wl ?_)) h4, IG_s (by repeat (first | exact Sm.rf | refine Sm.wi rfl ?_ | refine Sm.wl ?_)) h5, ?_, IO_s (by repeat (first | exact Sm.rf | refine Sm.wi rfl ?_ | refine Sm.wl ?_)) h7, ID_s (by repeat (first | exact Sm.rf | refine Sm.wi rfl ?_ | refine Sm.wl ?_)) h8, IT_s (by repeat (first | exact Sm.rf | refine Sm.wi rfl ?_ | refine Sm.wl ?_)) h9, IR_s (by repeat (first | exact Sm.rf | refine Sm.wi rfl ?_ | refine Sm.wl ?_)) h10⟩
      obtain ⟨e1, e2, e3, e4, e5, e6, e7, e8⟩ := h6
      exact ⟨e1, rfl, rfl, rfl, rfl, e6, e7, g⟩
  · refine ⟨-2, m, m, ?_, ?_, hI⟩
    · unfold f_X9_lurk
      repeat' split
      all_goals first | rfl | (exfalso; simp only [r_within, r_inn, r_plan9, r_plan10, r_64, Classical.not_not, li_0, lj_0, li_1, lj_1, li_m1, lj_m1, li_2, lj_2, li_3, lj_3, li_4, lj_4, li_m4, lj_m4, li_5, lj_5, li_m5, lj_m5, li_6, lj_6, li_m6, lj_m6, li_7, lj_7, li_8, lj_8, li_9, lj_9, li_10, lj_10, li_11, lj_11, li_12, lj_12, li_13, lj_13, li_20, lj_20, li_31, lj_31, li_39, lj_39, li_40, lj_40, li_50, lj_50, li_m50, lj_m50, li_59, lj_59, li_60, lj_60, li_99, lj_99, li_143, lj_143, li_144, lj_144, li_600, lj_600, li_601, lj_601, li_100000, lj_100000, li_m100000, lj_m100000, li_1000000, lj_1000000, li_2000000, lj_2000000, li_m2000000, lj_m2000000, li_200000, lj_200000, li_10000000, lj_10000000, li_m10000000, lj_m10000000, li_1000, lj_1000] at *; omega)
    · unfold f_X10_lurk
      repeat' split
      all_goals first | rfl | (exfalso; simp only [r_within, r_inn, r_plan9, r_plan10, r_64, Classical.not_not, li_0, lj_0, li_1, lj_1, li_m1, lj_m1, li_2, lj_2, li_3, lj_3, li_4, lj_4, li_m4, lj_m4, li_5, lj_5, li_m5, lj_m5, li_6, lj_6, li_m6, lj_m6, li_7, lj_7, li_8, lj_8, li_9, lj_9, li_10, lj_10, li_11, lj_11, li_12, lj_12, li_13, lj_13, li_20, lj_20, li_31, lj_31, li_39, lj_39, li_40, lj_40, li_50, lj_50, li_m50, lj_m50, li_59, lj_59, li_60, lj_60, li_99, lj_99, li_143, lj_143, li_144, lj_144, li_600, lj_600, li_601, lj_601, li_100000, lj_100000, li_m100000, lj_m100000, li_1000000, lj_1000000, li_2000000, lj_2000000, li_m2000000, lj_m2000000, li_200000, lj_200000, li_10000000, lj_10000000, li_m10000000, lj_m10000000, li_1000, lj_1000] at *; omega)
theorem ok_forget : q_OK_forget Inv := by
  intro m hI
  refine ⟨m.1 38 3, q_wi m 38 3 0, q_wi (q_wi m 38 3 0) 58 47 0, rfl, ?_, ?_⟩
  · obtain ⟨c, h1, h2, h3, h4⟩ := hI.2.2.2.2.2.2.2.2.1
    unfold f_X10_forget
    rw [h2, r_wi, if_neg (by omega), h3]
  · obtain ⟨h1, h2, h3, h4, h5, h6, h7, h8, h9, h10⟩ := hI
    refine ⟨IP_s (by repeat (first | exact Sm.rf | refine Sm.wi rfl ?_ | refine Sm.wl ?_)) h1, IS_s (by repeat (first | exact Sm.rf | refine Sm.wi rfl ?_ | refine Sm.wl ?_)) h2, IF_s (by repeat (first | exact Sm.rf | refine Sm.wi rfl ?_ | refine Sm.wl ?_)) h3, IH_s (by repeat (first | exact Sm.rf | refine Sm.wi rfl ?_ | refine Sm.wl ?_)) h4, IG_s (by repeat (first | exact Sm.rf | refine Sm.wi rfl ?_ | refine Sm.wl ?_)) h5, IL_s (by repeat (first | exact Sm.rf | refine Sm.wi rfl ?_ | refine Sm.wl ?_)) h6, IO_s (by repeat (first | exact Sm.rf | refine Sm.wi rfl ?_ | refine Sm.wl ?_)) h7, ID_s (by repeat (first | exact Sm.rf | refine Sm.wi rfl ?_ | refine Sm.wl ?_)) h8, ?_, IR_s (by repeat (first | exact Sm.rf | refine Sm.wi rfl ?_ | refine Sm.wl ?_)) h10⟩
    exact ⟨0, by omega, rfl, rfl, fun i hi => by omega⟩
theorem ok_steer : q_OK_steer Inv := by
  intro x1 m hI
  by_cases g : 0 ≤ x1.toInt ∧ x1.toInt ≤ 3
  · refine ⟨m.1 0 1, q_wi m 0 1 x1, q_wi (q_wi m 0 1 x1) 58 3 x1, ?_, ?_, ?_⟩
    · unfold f_X9_steer
      simp only [r_within, r_inn, r_plan9, r_plan10, r_64, li_0, lj_0, li_1, lj_1, li_m1, lj_m1, li_2, lj_2, li_3, lj_3, li_4, lj_4, li_m4, lj_m4, li_5, lj_5, li_m5, lj_m5, li_6, lj_6, li_m6, lj_m6, li_7, lj_7, li_8, lj_8, li_9, lj_9, li_10, lj_10, li_11, lj_11, li_12, lj_12, li_13, lj_13, li_20, lj_20, li_31, lj_31, li_39, lj_39, li_40, lj_40, li_50, lj_50, li_m50, lj_m50, li_59, lj_59, li_60, lj_60, li_99, lj_99, li_143, lj_143, li_144, lj_144, li_600, lj_600, li_601, lj_601, li_100000, lj_100000, li_m100000, lj_m100000, li_1000000, lj_1000000, li_2000000, lj_2000000, li_m2000000, lj_m2000000, li_200000, lj_200000, li_10000000, lj_10000000, li_m10000000, lj_m10000000, li_1000, lj_1000]
      rw [if_neg (not_not_intro (show 0 ≤ x1.toInt ∧ x1.toInt ≤ 3 by omega))]
    · unfold f_X10_steer
      simp only [r_within, r_inn, r_plan9, r_plan10, r_64, li_0, lj_0, li_1, lj_1, li_m1, lj_m1, li_2, lj_2, li_3, lj_3, li_4, lj_4, li_m4, lj_m4, li_5, lj_5, li_m5, lj_m5, li_6, lj_6, li_m6, lj_m6, li_7, lj_7, li_8, lj_8, li_9, lj_9, li_10, lj_10, li_11, lj_11, li_12, lj_12, li_13, lj_13, li_20, lj_20, li_31, lj_31, li_39, lj_39, li_40, lj_40, li_50, lj_50, li_m50, lj_m50, li_59, lj_59, li_60, lj_60, li_99, lj_99, li_143, lj_143, li_144, lj_144, li_600, lj_600, li_601, lj_601, li_100000, lj_100000, li_m100000, lj_m100000, li_1000000, lj_1000000, li_2000000, lj_2000000, li_m2000000, lj_m2000000, li_200000, lj_200000, li_10000000, lj_10000000, li_m10000000, lj_m10000000, li_1000, lj_1000]
      rw [if_neg (not_not_intro (show 0 ≤ x1.toInt ∧ x1.toInt ≤ 3 by omega))]
      obtain ⟨p, hp, e1, e2⟩ := hI.2.1
      rw [e1, r_wi, if_neg (by omega), e2]
    · obtain ⟨h1, h2, h3, h4, h5, h6, h7, h8, h9, h10⟩ := hI
      refine ⟨IP_s (by repeat (first | exact Sm.rf | refine Sm.wi rfl ?_ | refine Sm.wl ?_)) h1, ?_, IF_s (by repeat (first | exact Sm.rf | refine Sm.wi rfl ?_ | refine Sm.wl ?_)) h3, IH_s (by repeat (first | exact Sm.rf | refine Sm.wi rfl ?_ | refine Sm.wl ?_)) h4, IG_s (by repeat (first | exact Sm.rf | refine Sm.wi rfl ?_ | refine Sm.wl ?_)) h5, IL_s (by repeat (first | exact Sm.rf | refine Sm.wi rfl ?_ | refine Sm.wl ?_)) h6, IO_s (by repeat (first | exact Sm.rf | refine Sm.wi rfl ?_ | refine Sm.wl ?_)) h7, ID_s (by repeat (first | exact Sm.rf | refine Sm.wi rfl ?_ | refine Sm.wl ?_)) h8, IT_s (by repeat (first | exact Sm.rf | refine Sm.wi rfl ?_ | refine Sm.wl ?_)) h9, IR_s (by repeat (first | exact Sm.rf | refine Sm.wi rfl ?_ | refine Sm.wl ?_)) h10⟩
      obtain ⟨p, hp, rfl⟩ := r_of g.1 (n := 4) (by omega) (by decide)
      exact ⟨p, hp, rfl, rfl⟩
  · refine ⟨-1, m, m, ?_, ?_, hI⟩
    · unfold f_X9_steer
      repeat' split
      all_goals first | rfl | (exfalso; simp only [r_within, r_inn, r_plan9, r_plan10, r_64, Classical.not_not, li_0, lj_0, li_1, lj_1, li_m1, lj_m1, li_2, lj_2, li_3, lj_3, li_4, lj_4, li_m4, lj_m4, li_5, lj_5, li_m5, lj_m5, li_6, lj_6, li_m6, lj_m6, li_7, lj_7, li_8, lj_8, li_9, lj_9, li_10, lj_10, li_11, lj_11, li_12, lj_12, li_13, lj_13, li_20, lj_20, li_31, lj_31, li_39, lj_39, li_40, lj_40, li_50, lj_50, li_m50, lj_m50, li_59, lj_59, li_60, lj_60, li_99, lj_99, li_143, lj_143, li_144, lj_144, li_600, lj_600, li_601, lj_601, li_100000, lj_100000, li_m100000, lj_m100000, li_1000000, lj_1000000, li_2000000, lj_2000000, li_m2000000, lj_m2000000, li_200000, lj_200000, li_10000000, lj_10000000, li_m10000000, lj_m10000000, li_1000, lj_1000] at *; omega)
    · unfold f_X10_steer
      repeat' split
      all_goals first | rfl | (exfalso; simp only [r_within, r_inn, r_plan9, r_plan10, r_64, Classical.not_not, li_0, lj_0, li_1, lj_1, li_m1, lj_m1, li_2, lj_2, li_3, lj_3, li_4, lj_4, li_m4, lj_m4, li_5, lj_5, li_m5, lj_m5, li_6, lj_6, li_m6, lj_m6, li_7, lj_7, li_8, lj_8, li_9, lj_9, li_10, lj_10, li_11, lj_11, li_12, lj_12, li_13, lj_13, li_20, lj_20, li_31, lj_31, li_39, lj_39, li_40, lj_40, li_50, lj_50, li_m50, lj_m50, li_59, lj_59, li_60, lj_60, li_99, lj_99, li_143, lj_143, li_144, lj_144, li_600, lj_600, li_601, lj_601, li_100000, lj_100000, li_m100000, lj_m100000, li_1000000, lj_1000000, li_2000000, lj_2000000, li_m2000000, lj_m2000000, li_200000, lj_200000, li_10000000, lj_10000000, li_m10000000, lj_m10000000, li_1000, lj_1000] at *; omega)
theorem r_12 {x y : Int32} (hx : 0 ≤ x.toInt ∧ x.toInt ≤ 11) (hy : 0 ≤ y.toInt ∧ y.toInt ≤ 11) : ∃ k : Nat, k < 144 ∧ 12 * y + x = nI k := by
  obtain ⟨a, ha, rfl⟩ := r_of hx.1 (n := 12) (by omega) (by decide)
  obtain ⟨b, hb, rfl⟩ := r_of hy.1 (n := 12) (by omega) (by decide)
  refine ⟨12 * b + a, by omega, ?_⟩
  rw [show (12 : Int32) = nI 12 from rfl, pk_mul, nI_add]
theorem ok_danger : q_OK_danger Inv := by
  intro x1 x2 x3 m hI
  by_cases g1 : (0 ≤ x1.toInt ∧ x1.toInt ≤ 11) ∧ 0 ≤ x2.toInt ∧ x2.toInt ≤ 11
  · by_cases g2 : -1 ≤ x3.toInt ∧ x3.toInt ≤ 99
    · obtain ⟨k, hk, e⟩ := r_12 g1.1 g1.2
      refine ⟨m.1 33 k, q_wi m 33 k x3, q_wi (q_wi m 33 k x3) 81 k x3, ?_, ?_, ?_⟩
      · unfold f_X9_danger
        simp only [r_within, r_inn, r_plan9, r_plan10, r_64, li_0, lj_0, li_1, lj_1, li_m1, lj_m1, li_2, lj_2, li_3, lj_3, li_4, lj_4, li_m4, lj_m4, li_5, lj_5, li_m5, lj_m5, li_6, lj_6, li_m6, lj_m6, li_7, lj_7, li_8, lj_8, li_9, lj_9, li_10, lj_10, li_11, lj_11, li_12, lj_12, li_13, lj_13, li_20, lj_20, li_31, lj_31, li_39, lj_39, li_40, lj_40, li_50, lj_50, li_m50, lj_m50, li_59, lj_59, li_60, lj_60, li_99, lj_99, li_143, lj_143, li_144, lj_144, li_600, lj_600, li_601, lj_601, li_100000, lj_100000, li_m100000, lj_m100000, li_1000000, lj_1000000, li_2000000, lj_2000000, li_m2000000, lj_m2000000, li_200000, lj_200000, li_10000000, lj_10000000, li_m10000000, lj_m10000000, li_1000, lj_1000]
        rw [if_neg (not_not_intro (show 0 ≤ x1.toInt ∧ x1.toInt ≤ 11 by omega)), if_neg (not_not_intro (show 0 ≤ x2.toInt ∧ x2.toInt ≤ 11 by omega)), if_neg (not_not_intro (show -1 ≤ x3.toInt ∧ x3.toInt ≤ 99 by omega))]
        rw [e, if_pos (r_in hk (by decide)), if_pos (r_in hk (by decide)), r_cl (by omega)]
      · unfold f_X10_danger
        simp only [r_within, r_inn, r_plan9, r_plan10, r_64, li_0, lj_0, li_1, lj_1, li_m1, lj_m1, li_2, lj_2, li_3, lj_3, li_4, lj_4, li_m4, lj_m4, li_5, lj_5, li_m5, lj_m5, li_6, lj_6, li_m6, lj_m6, li_7, lj_7, li_8, lj_8, li_9, lj_9, li_10, lj_10, li_11, lj_11, li_12, lj_12, li_13, lj_13, li_20, lj_20, li_31, lj_31, li_39, lj_39, li_40, lj_40, li_50, lj_50, li_m50, lj_m50, li_59, lj_59, li_60, lj_60, li_99, lj_99, li_143, lj_143, li_144, lj_144, li_600, lj_600, li_601, lj_601, li_100000, lj_100000, li_m100000, lj_m100000, li_1000000, lj_1000000, li_2000000, lj_2000000, li_m2000000, lj_m2000000, li_200000, lj_200000, li_10000000, lj_10000000, li_m10000000, lj_m10000000, li_1000, lj_1000]
        rw [if_neg (not_not_intro (show 0 ≤ x1.toInt ∧ x1.toInt ≤ 11 by omega)), if_neg (not_not_intro (show 0 ≤ x2.toInt ∧ x2.toInt ≤ 11 by omega)), if_neg (not_not_intro (show -1 ≤ x3.toInt ∧ x3.toInt ≤ 99 by omega))]
        rw [e, if_pos (r_in hk (by decide)), if_pos (r_in hk (by decide)), r_cl (by omega)]
        rw [show (q_wi m 33 k x3).1 81 k = m.1 81 k from by rw [r_wi, if_neg (by omega)], (hI.2.2.2.2.2.2.2.1 k hk).1]
      · obtain ⟨h1, h2, h3, h4, h5, h6, h7, h8, h9, h10⟩ := hI
        refine ⟨IP_s (by repeat (first | exact Sm.rf | refine Sm.wi rfl ?_ | refine Sm.wl ?_)) h1, IS_s (by repeat (first | exact Sm.rf | refine Sm.wi rfl ?_ | refine Sm.wl ?_)) h2, IF_s (by repeat (first | exact Sm.rf | refine Sm.wi rfl ?_ | refine Sm.wl ?_)) h3, IH_s (by repeat (first | exact Sm.rf | refine Sm.wi rfl ?_ | refine Sm.wl ?_)) h4, IG_s (by repeat (first | exact Sm.rf | refine Sm.wi rfl ?_ | refine Sm.wl ?_)) h5, IL_s (by repeat (first | exact Sm.rf | refine Sm.wi rfl ?_ | refine Sm.wl ?_)) h6, IO_s (by repeat (first | exact Sm.rf | refine Sm.wi rfl ?_ | refine Sm.wl ?_)) h7, ?_, IT_s (by repeat (first | exact Sm.rf | refine Sm.wi rfl ?_ | refine Sm.wl ?_)) h9, IR_s (by repeat (first | exact Sm.rf | refine Sm.wi rfl ?_ | refine Sm.wl ?_)) h10⟩
        intro i hi
        by_cases hik : i = k
        · subst hik
          simp only [r_wi, and_self, and_true, if_true, if_false, Nat.reduceEqDiff]
          exact ⟨trivial, g2⟩
        · simp only [r_wi, hik, and_false, if_false]
          exact h8 i hi
    · refine ⟨-102, m, m, ?_, ?_, hI⟩
      · unfold f_X9_danger
        repeat' split
        all_goals first | rfl | (exfalso; simp only [r_within, r_inn, r_plan9, r_plan10, r_64, Classical.not_not, li_0, lj_0, li_1, lj_1, li_m1, lj_m1, li_2, lj_2, li_3, lj_3, li_4, lj_4, li_m4, lj_m4, li_5, lj_5, li_m5, lj_m5, li_6, lj_6, li_m6, lj_m6, li_7, lj_7, li_8, lj_8, li_9, lj_9, li_10, lj_10, li_11, lj_11, li_12, lj_12, li_13, lj_13, li_20, lj_20, li_31, lj_31, li_39, lj_39, li_40, lj_40, li_50, lj_50, li_m50, lj_m50, li_59, lj_59, li_60, lj_60, li_99, lj_99, li_143, lj_143, li_144, lj_144, li_600, lj_600, li_601, lj_601, li_100000, lj_100000, li_m100000, lj_m100000, li_1000000, lj_1000000, li_2000000, lj_2000000, li_m2000000, lj_m2000000, li_200000, lj_200000, li_10000000, lj_10000000, li_m10000000, lj_m10000000, li_1000, lj_1000] at *; omega)
      · unfold f_X10_danger
        repeat' split
        all_goals first | rfl | (exfalso; simp only [r_within, r_inn, r_plan9, r_plan10, r_64, Classical.not_not, li_0, lj_0, li_1, lj_1, li_m1, lj_m1, li_2, lj_2, li_3, lj_3, li_4, lj_4, li_m4, lj_m4, li_5, lj_5, li_m5, lj_m5, li_6, lj_6, li_m6, lj_m6, li_7, lj_7, li_8, lj_8, li_9, lj_9, li_10, lj_10, li_11, lj_11, li_12, lj_12, li_13, lj_13, li_20, lj_20, li_31, lj_31, li_39, lj_39, li_40, lj_40, li_50, lj_50, li_m50, lj_m50, li_59, lj_59, li_60, lj_60, li_99, lj_99, li_143, lj_143, li_144, lj_144, li_600, lj_600, li_601, lj_601, li_100000, lj_100000, li_m100000, lj_m100000, li_1000000, lj_1000000, li_2000000, lj_2000000, li_m2000000, lj_m2000000, li_200000, lj_200000, li_10000000, lj_10000000, li_m10000000, lj_m10000000, li_1000, lj_1000] at *; omega)
  · refine ⟨-101, m, m, ?_, ?_, hI⟩
    · unfold f_X9_danger
      repeat' split
      all_goals first | rfl | (exfalso; simp only [r_within, r_inn, r_plan9, r_plan10, r_64, Classical.not_not, li_0, lj_0, li_1, lj_1, li_m1, lj_m1, li_2, lj_2, li_3, lj_3, li_4, lj_4, li_m4, lj_m4, li_5, lj_5, li_m5, lj_m5, li_6, lj_6, li_m6, lj_m6, li_7, lj_7, li_8, lj_8, li_9, lj_9, li_10, lj_10, li_11, lj_11, li_12, lj_12, li_13, lj_13, li_20, lj_20, li_31, lj_31, li_39, lj_39, li_40, lj_40, li_50, lj_50, li_m50, lj_m50, li_59, lj_59, li_60, lj_60, li_99, lj_99, li_143, lj_143, li_144, lj_144, li_600, lj_600, li_601, lj_601, li_100000, lj_100000, li_m100000, lj_m100000, li_1000000, lj_1000000, li_2000000, lj_2000000, li_m2000000, lj_m2000000, li_200000, lj_200000, li_10000000, lj_10000000, li_m10000000, lj_m10000000, li_1000, lj_1000] at *; omega)
    · unfold f_X10_danger
      repeat' split
      all_goals first | rfl | (exfalso; simp only [r_within, r_inn, r_plan9, r_plan10, r_64, Classical.not_not, li_0, lj_0, li_1, lj_1, li_m1, lj_m1, li_2, lj_2, li_3, lj_3, li_4, lj_4, li_m4, lj_m4, li_5, lj_5, li_m5, lj_m5, li_6, lj_6, li_m6, lj_m6, li_7, lj_7, li_8, lj_8, li_9, lj_9, li_10, lj_10, li_11, lj_11, li_12, lj_12, li_13, lj_13, li_20, lj_20, li_31, lj_31, li_39, lj_39, li_40, lj_40, li_50, lj_50, li_m50, lj_m50, li_59, lj_59, li_60, lj_60, li_99, lj_99, li_143, lj_143, li_144, lj_144, li_600, lj_600, li_601, lj_601, li_100000, lj_100000, li_m100000, lj_m100000, li_1000000, lj_1000000, li_2000000, lj_2000000, li_m2000000, lj_m2000000, li_200000, lj_200000, li_10000000, lj_10000000, li_m10000000, lj_m10000000, li_1000, lj_1000] at *; omega)
