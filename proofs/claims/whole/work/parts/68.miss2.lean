theorem ok_miss : q_OK_miss Inv := by
  intro x1 x2 x3 m hI
  obtain ⟨c, k, hc, hk, e1, e2, e3, e4, hr, hl, hb⟩ := hI.2.2.2.1
  have hm1 : (nI c - 1).toInt = (c : Int) - 1 := pk_sub_toInt (b := 1) (by omega) (by decide)
  have s9 : f_X9_isShip x1 m = 0 ↔ ¬ (0 ≤ x1.toInt ∧ x1.toInt ≤ (c : Int) - 1) := by
    unfold f_X9_isShip
    rw [r_within, e1, hm1]; rfl
  have s10 : f_X10_in x1.toInt64 0 ((m.1 58 11) - 1).toInt64 m = 0 ↔ ¬ (0 ≤ x1.toInt ∧ x1.toInt ≤ (c : Int) - 1) := by
    rw [r_inn, e2, r_64, hm1]; rfl
  by_cases g1 : 0 ≤ x1.toInt ∧ x1.toInt ≤ (c : Int) - 1
  · by_cases g2 : 0 ≤ x2.toInt ∧ x2.toInt ≤ 9
    · by_cases g3 : 0 ≤ x3.toInt ∧ x3.toInt ≤ 11
      · obtain ⟨s, hs, rfl⟩ := r_of g1.1 (n := c) (by omega) (by omega)
        obtain ⟨h, hh, rfl⟩ := r_of g2.1 (n := 10) (by omega) (by decide)
        obtain ⟨t, ht, rfl⟩ := r_of g3.1 (n := 12) (by omega) (by decide)
        have u9 : f_X9_miss (nI s) (nI h) (nI t) m = if nI k < 20 then (if (m.1 (5 + 2 * s + 1) h >>> (nI t &&& 31)) &&& 1 = 1 then some (-5, m) else some (nI (k + 1), (q_wi (q_wi m (5 + 2 * s + 1) h (m.1 (5 + 2 * s + 1) h ||| ((1 : Int32) <<< (nI t &&& 31)))) 3 2 (nI (k + 1))))) else some (-4, m) := by
          unfold f_X9_miss
          rw [if_neg (fun e => s9.mp e g1), if_neg (show ¬ f_X9_within (nI h) 0 9 m = 0 from fun e => r_within.mp e g2), if_neg (show ¬ f_X9_within (nI t) 0 11 m = 0 from fun e => r_within.mp e g3), e3, r_in (show s < 9 by omega) (by decide), r_in hh (by decide), r_cl (show s < 2 ^ 31 by omega), r_cl (show h < 2 ^ 31 by omega)]
          simp only [if_true, r_wi, show ¬ (3 = 5 + 2 * s + 1) by omega, false_and, if_false, e3, nI_1, and_self]
        have u10 : ∀ m1 : q_Mm, m1.1 58 15 = nI k → m1.1 58 11 = nI c → f_X10_miss (nI s) (nI h) (nI t) m1 = if nI k = 20 then some (-4, m1) else (l_X10_miss_60 7000 (nI s) (nI h) (nI t) 0 m1).bind fun r4 => match r4 with
          | .inl r6 => some (-5, m1)
          | .inr r7 => if q_in (nI k) 20 = true then some (nI (k + 1), q_wi (q_wi (q_wi (q_wi m1 67 k (nI s)) 68 k (nI h)) 69 k (nI t)) 58 15 (nI (k + 1))) else none := by
          intro m1 f1 f2
          unfold f_X10_miss
          have s10' : f_X10_in (nI s).toInt64 0 ((m1.1 58 11) - 1).toInt64 m1 = 0 ↔ ¬ (0 ≤ (nI s).toInt ∧ (nI s).toInt ≤ (c : Int) - 1) := by
            rw [r_inn, f2, r_64, hm1]; rfl
          rw [if_neg (fun e => s10'.mp e g1), if_neg (show ¬ f_X10_in (nI h).toInt64 0 9 m1 = 0 from fun e => r_inn.mp e g2), if_neg (show ¬ f_X10_in (nI t).toInt64 0 11 m1 = 0 from fun e => r_inn.mp e g3), f1]
          congr 1
          congr 1
          funext r4
          cases r4 with
          | inl r => rfl
          | inr r =>
            dsimp only
            by_cases hq : q_in (nI k) 20 = true
            · simp only [hq, r_wi, f1, r_cl (show k < 2 ^ 31 by omega), if_true, Nat.reduceEqDiff, false_and, if_false, nI_1, and_self]
            · rw [if_neg hq, if_neg hq]
        by_cases hN : k = 20
        · subst hN
          refine ⟨-4, m, m, ?_, ?_, hI⟩
          · rw [u9, if_neg (by decide)]
          · rw [u10 m e4 e2, if_pos (by decide)]
        · have hlt : k < 20 := by omega
          have h20 : nI k < 20 := nI_lt hlt (by decide)
          have h20' : ¬ nI k = 20 := fun e => hN ((nI_eq (by omega) (by decide)).mp e)
          have hbit : (m.1 (5 + 2 * s + 1) h >>> (nI t &&& 31)) &&& 1 = 1 ↔ ∃ i, i < k ∧ m.1 67 i = nI s ∧ m.1 68 i = nI h ∧ m.1 69 i = nI t := by
            rw [bt_test1 (by omega), hb s h (by omega) hh, mBits_bt (by omega) k (fun i hi => (hl i hi).2.2)]
          by_cases hx : ∃ i, i < k ∧ m.1 67 i = nI s ∧ m.1 68 i = nI h ∧ m.1 69 i = nI t
          · refine ⟨-5, m, m, ?_, ?_, hI⟩
            · rw [u9, if_pos h20, if_pos (hbit.mpr hx)]
            · obtain ⟨j, j1, j2⟩ := hx
              rw [u10 m e4 e2, if_neg h20', show l_X10_miss_60 7000 (nI s) (nI h) (nI t) 0 m = some (.inl ()) from miss60_yes (by omega) e4 k 0 7000 (by omega) (by omega) ⟨j, Nat.zero_le _, j1, j2⟩]
              rfl
          · refine ⟨nI (k + 1), (q_wi (q_wi m (5 + 2 * s + 1) h (m.1 (5 + 2 * s + 1) h ||| ((1 : Int32) <<< (nI t &&& 31)))) 3 2 (nI (k + 1))), (q_wi (q_wi (q_wi (q_wi (q_wi (q_wi m (5 + 2 * s + 1) h (m.1 (5 + 2 * s + 1) h ||| ((1 : Int32) <<< (nI t &&& 31)))) 3 2 (nI (k + 1))) 67 k (nI s)) 68 k (nI h)) 69 k (nI t)) 58 15 (nI (k + 1))), ?_, ?_, ?_⟩
            · rw [u9, if_pos h20, if_neg (fun e => hx (hbit.mp e))]
            · have f1 : (q_wi (q_wi m (5 + 2 * s + 1) h (m.1 (5 + 2 * s + 1) h ||| ((1 : Int32) <<< (nI t &&& 31)))) 3 2 (nI (k + 1))).1 58 15 = nI k := by simp only [r_wi, show ¬ (58 = 5 + 2 * s + 1) by omega, Nat.reduceEqDiff, false_and, if_false, e4]
              have f2 : (q_wi (q_wi m (5 + 2 * s + 1) h (m.1 (5 + 2 * s + 1) h ||| ((1 : Int32) <<< (nI t &&& 31)))) 3 2 (nI (k + 1))).1 58 11 = nI c := by simp only [r_wi, show ¬ (58 = 5 + 2 * s + 1) by omega, Nat.reduceEqDiff, false_and, if_false, e2]
              have r67 : (q_wi (q_wi m (5 + 2 * s + 1) h (m.1 (5 + 2 * s + 1) h ||| ((1 : Int32) <<< (nI t &&& 31)))) 3 2 (nI (k + 1))).1 67 = m.1 67 := by rw [r_row (by omega), r_row (by omega)]
              have r68 : (q_wi (q_wi m (5 + 2 * s + 1) h (m.1 (5 + 2 * s + 1) h ||| ((1 : Int32) <<< (nI t &&& 31)))) 3 2 (nI (k + 1))).1 68 = m.1 68 := by rw [r_row (by omega), r_row (by omega)]
              have r69 : (q_wi (q_wi m (5 + 2 * s + 1) h (m.1 (5 + 2 * s + 1) h ||| ((1 : Int32) <<< (nI t &&& 31)))) 3 2 (nI (k + 1))).1 69 = m.1 69 := by rw [r_row (by omega), r_row (by omega)]
              rw [u10 _ f1 f2, if_neg h20', show l_X10_miss_60 7000 (nI s) (nI h) (nI t) 0 (q_wi (q_wi m (5 + 2 * s + 1) h (m.1 (5 + 2 * s + 1) h ||| ((1 : Int32) <<< (nI t &&& 31)))) 3 2 (nI (k + 1))) = some (.inr ()) from miss60_no (by omega) f1 k 0 7000 (by omega) (by omega) (by omega) (fun j _ hj hz => hx ⟨j, hj, by rw [← r67, ← r68, ← r69]; exact hz⟩)]
              dsimp only [Option.bind_some]
              rw [if_pos (r_in hlt (by decide))]
            · obtain ⟨h1, h2, h3, h4, h5, h6, h7, h8, h9, h10⟩ := hI
              refine ⟨IP_s (by repeat (first | exact Sm.rf | refine Sm.wi rfl ?_ | refine Sm.wl ?_ | refine Sm.wi (sP_sh (by omega) (by omega)) ?_)) h1, IS_s (by repeat (first | exact Sm.rf | refine Sm.wi rfl ?_ | refine Sm.wl ?_ | refine Sm.wi (sS_sh (by omega) (by omega)) ?_ | refine Sm.wi (sS_pl (by omega) (by omega)) ?_)) h2, IF_s (by repeat (first | exact Sm.rf | refine Sm.wi rfl ?_ | refine Sm.wl ?_ | refine Sm.wi (sF_sh (by omega) (by omega)) ?_ | refine Sm.wi (sF_pl (by omega) (by omega)) ?_)) h3, ?_, IG_s (by repeat (first | exact Sm.rf | refine Sm.wi rfl ?_ | refine Sm.wl ?_ | refine Sm.wi (sG_sh (by omega) (by omega)) ?_ | refine Sm.wi (sG_pl (by omega) (by omega)) ?_)) h5, IL_s (by repeat (first | exact Sm.rf | refine Sm.wi rfl ?_ | refine Sm.wl ?_ | refine Sm.wi (sL_sh (by omega) (by omega)) ?_ | refine Sm.wi (sL_pl (by omega) (by omega)) ?_)) h6, IO_s (by repeat (first | exact Sm.rf | refine Sm.wi rfl ?_ | refine Sm.wl ?_ | refine Sm.wi (sO_sh (by omega) (by omega)) ?_ | refine Sm.wi (sO_pl (by omega) (by omega)) ?_)) h7, ID_s (by repeat (first | exact Sm.rf | refine Sm.wi rfl ?_ | refine Sm.wl ?_ | refine Sm.wi (sD_sh (by omega) (by omega)) ?_ | refine Sm.wi (sD_pl (by omega) (by omega)) ?_)) h8, IT_s (by repeat (first | exact Sm.rf | refine Sm.wi rfl ?_ | refine Sm.wl ?_ | refine Sm.wi (sT_sh (by omega) (by omega)) ?_ | refine Sm.wi (sT_pl (by omega) (by omega)) ?_)) h9, IR_s (by repeat (first | exact Sm.rf | refine Sm.wi rfl ?_ | refine Sm.wl ?_ | refine Sm.wi (sR_sh (by omega) (by omega)) ?_ | refine Sm.wi (sR_pl (by omega) (by omega)) ?_)) h10⟩
              refine ⟨c, k + 1, hc, by omega, ?_, ?_, ?_, ?_, fun i hi => ?_, fun i hi => ?_, fun s' h' hs' hh' => ?_⟩
              · simp only [r_wi, show ¬ (3 = 5 + 2 * s + 1) by omega, Nat.reduceEqDiff, false_and, and_false, if_false, e1]
              · simp only [r_wi, show ¬ (58 = 5 + 2 * s + 1) by omega, Nat.reduceEqDiff, false_and, and_false, if_false, e2]
              · simp only [r_wi, Nat.reduceEqDiff, false_and, if_false, and_self, if_true]
              · simp only [r_wi, and_self, if_true]
              · have rr : ∀ q, 5 + 2 * i = q ∨ 63 ≤ q ∧ q ≤ 66 → (q_wi (q_wi (q_wi (q_wi (q_wi (q_wi m (5 + 2 * s + 1) h (m.1 (5 + 2 * s + 1) h ||| ((1 : Int32) <<< (nI t &&& 31)))) 3 2 (nI (k + 1))) 67 k (nI s)) 68 k (nI h)) 69 k (nI t)) 58 15 (nI (k + 1))).1 q = m.1 q := by
                  intro q hq
                  rw [r_row (by omega), r_row (by omega), r_row (by omega), r_row (by omega), r_row (by omega), r_row (by omega)]
                rw [rr (5 + 2 * i) (by omega), rr 63 (by omega), rr 64 (by omega), rr 65 (by omega), rr 66 (by omega)]
                exact hr i hi
              · by_cases hik : i = k
                · subst hik
                  refine ⟨⟨s, hs, ?_⟩, ⟨h, hh, ?_⟩, t, ht, ?_⟩
                  · simp only [r_wi, Nat.reduceEqDiff, false_and, if_false, and_self, if_true]
                  · simp only [r_wi, Nat.reduceEqDiff, false_and, if_false, and_self, if_true]
                  · simp only [r_wi, Nat.reduceEqDiff, false_and, if_false, and_self, if_true]
                · simp only [r_wi, show ¬ (67 = 5 + 2 * s + 1) by omega, show ¬ (68 = 5 + 2 * s + 1) by omega, show ¬ (69 = 5 + 2 * s + 1) by omega, Nat.reduceEqDiff, false_and, and_false, if_false, hik]
                  exact hl i (by omega)
              · have c67 : ∀ i, i < k → (q_wi (q_wi (q_wi (q_wi (q_wi (q_wi m (5 + 2 * s + 1) h (m.1 (5 + 2 * s + 1) h ||| ((1 : Int32) <<< (nI t &&& 31)))) 3 2 (nI (k + 1))) 67 k (nI s)) 68 k (nI h)) 69 k (nI t)) 58 15 (nI (k + 1))).1 67 i = m.1 67 i ∧ (q_wi (q_wi (q_wi (q_wi (q_wi (q_wi m (5 + 2 * s + 1) h (m.1 (5 + 2 * s + 1) h ||| ((1 : Int32) <<< (nI t &&& 31)))) 3 2 (nI (k + 1))) 67 k (nI s)) 68 k (nI h)) 69 k (nI t)) 58 15 (nI (k + 1))).1 68 i = m.1 68 i ∧ (q_wi (q_wi (q_wi (q_wi (q_wi (q_wi m (5 + 2 * s + 1) h (m.1 (5 + 2 * s + 1) h ||| ((1 : Int32) <<< (nI t &&& 31)))) 3 2 (nI (k + 1))) 67 k (nI s)) 68 k (nI h)) 69 k (nI t)) 58 15 (nI (k + 1))).1 69 i = m.1 69 i := by
                  intro i hi
                  simp only [r_wi, show ¬ (67 = 5 + 2 * s + 1) by omega, show ¬ (68 = 5 + 2 * s + 1) by omega, show ¬ (69 = 5 + 2 * s + 1) by omega, Nat.reduceEqDiff, false_and, and_false, if_false, show ¬ i = k by omega, and_self]
                have d67 : (q_wi (q_wi (q_wi (q_wi (q_wi (q_wi m (5 + 2 * s + 1) h (m.1 (5 + 2 * s + 1) h ||| ((1 : Int32) <<< (nI t &&& 31)))) 3 2 (nI (k + 1))) 67 k (nI s)) 68 k (nI h)) 69 k (nI t)) 58 15 (nI (k + 1))).1 67 k = nI s := by simp only [r_wi, Nat.reduceEqDiff, false_and, if_false, and_self, if_true]
                have d68 : (q_wi (q_wi (q_wi (q_wi (q_wi (q_wi m (5 + 2 * s + 1) h (m.1 (5 + 2 * s + 1) h ||| ((1 : Int32) <<< (nI t &&& 31)))) 3 2 (nI (k + 1))) 67 k (nI s)) 68 k (nI h)) 69 k (nI t)) 58 15 (nI (k + 1))).1 68 k = nI h := by simp only [r_wi, Nat.reduceEqDiff, false_and, if_false, and_self, if_true]
                have d69 : (q_wi (q_wi (q_wi (q_wi (q_wi (q_wi m (5 + 2 * s + 1) h (m.1 (5 + 2 * s + 1) h ||| ((1 : Int32) <<< (nI t &&& 31)))) 3 2 (nI (k + 1))) 67 k (nI s)) 68 k (nI h)) 69 k (nI t)) 58 15 (nI (k + 1))).1 69 k = nI t := by simp only [r_wi, Nat.reduceEqDiff, false_and, if_false, and_self, if_true]
                unfold mBits
                rw [d67, d68, d69, mBits_congr k c67, ← hb s' h' hs' hh']
                rw [r_row (by omega), r_row (by omega), r_row (by omega), r_row (by omega), r_row (by omega), r_wi]
                by_cases hz : s' = s ∧ h' = h
                · obtain ⟨rfl, rfl⟩ := hz
                  rw [if_pos ⟨rfl, rfl⟩, if_pos ⟨rfl, rfl⟩]
                · rw [if_neg (by omega), if_neg (fun e => hz ⟨((nI_eq (by omega) (by omega)).mp e.1).symm, ((nI_eq (by omega) (by omega)).mp e.2).symm⟩)]
      · refine ⟨-2, m, m, ?_, ?_, hI⟩
        · unfold f_X9_miss
          rw [if_neg (fun e => s9.mp e g1), if_neg (show ¬ f_X9_within x2 0 9 m = 0 from fun e => r_within.mp e g2), if_pos (show f_X9_within x3 0 11 m = 0 from r_within.mpr g3)]
        · unfold f_X10_miss
          rw [if_neg (fun e => s10.mp e g1), if_neg (show ¬ f_X10_in x2.toInt64 0 9 m = 0 from fun e => r_inn.mp e g2), if_pos (show f_X10_in x3.toInt64 0 11 m = 0 from r_inn.mpr g3)]
    · refine ⟨-2, m, m, ?_, ?_, hI⟩
      · unfold f_X9_miss
        rw [if_neg (fun e => s9.mp e g1), if_pos (show f_X9_within x2 0 9 m = 0 from r_within.mpr g2)]
      · unfold f_X10_miss
        rw [if_neg (fun e => s10.mp e g1), if_pos (show f_X10_in x2.toInt64 0 9 m = 0 from r_inn.mpr g2)]
  · refine ⟨-1, m, m, ?_, ?_, hI⟩
    · unfold f_X9_miss
      rw [if_pos (s9.mpr g1)]
    · unfold f_X10_miss
      rw [if_pos (s10.mpr g1)]
