theorem Sm.shf {sup : Nat → Nat → Bool} {a b o pos at' : Nat} {m0 m m' : q_Mm} (ha : ∀ j, sup a j = false) (hb : ∀ j, sup b j = false) (h0 : Sm sup m0 m) (h : Shf a b o pos at' m m') : Sm sup m0 m' := fun k j hk => by
  rw [h.2.1 k (fun e => by rw [e, ha j] at hk; cases hk) (fun e => by rw [e, hb j] at hk; cases hk)]
  exact h0 k j hk
theorem f_turnsAt1 {m : q_Mm} {b c : Nat} {x : Int32} (hc : c ≤ 12) (e : m.1 b 2 = nI c) (h : ∃ j, 0 ≤ j ∧ j < c ∧ m.1 (b + 1) j = x) : f_X5_turnsAt b x m = some 1 := by
  unfold f_X5_turnsAt
  rw [show l_X5_turnsAt_2 7000 b x 0 m = some (.inl ()) from turnsAt_yes hc e c 0 7000 (by omega) (by omega) h]
  rfl
theorem f_turnsAt0 {m : q_Mm} {b c : Nat} {x : Int32} (hc : c ≤ 12) (e : m.1 b 2 = nI c) (h : ∀ j, 0 ≤ j → j < c → ¬ m.1 (b + 1) j = x) : f_X5_turnsAt b x m = some 0 := by
  unfold f_X5_turnsAt
  rw [show l_X5_turnsAt_2 7000 b x 0 m = some (.inr ()) from turnsAt_no hc e c 0 7000 (by omega) (by omega) (by omega) h]
  rfl
theorem f_insert {m : q_Mm} {a c : Nat} {x1 x2 : Int32} (hc : c < 12) (e : m.1 a 2 = nI c) : ∃ pos m', pos ≤ c ∧ Shf (a + 1) (a + 2) 0 pos c m m' ∧ (pos = 0 ∨ m.1 (a + 1) (pos - 1) ≤ x1) ∧ (∀ i, pos ≤ i → i < c → ¬ m.1 (a + 1) i ≤ x1) ∧ f_X5_insert a x1 x2 m = some (q_wi (q_wi (q_wi m' (a + 1) pos x1) (a + 2) pos x2) a 2 (nI (c + 1))) := by
  obtain ⟨pos, m', h1, h2, h3, h4, h5⟩ := insert_l (b := a) (x1 := x1) (x2 := x2) c 7000 m hc (by omega)
  refine ⟨pos, m', h2, h3, h4, h5, ?_⟩
  unfold f_X5_insert
  rw [e, h1]
  have e2 : m'.1 a 2 = nI c := by rw [h3.2.1 a (by omega) (by omega), e]
  simp only [Option.bind_some, r_in (show pos < 12 by omega) (by decide), if_true, r_cl (show pos < 2 ^ 31 by omega), r_wi, show ¬ (a = a + 1) by omega, show ¬ (a = a + 2) by omega, false_and, if_false, e2, nI_1]
theorem ok_turn : q_OK_turn Inv := by
  intro x1 x2 x3 m hI
  by_cases g1 : 0 ≤ x1.toInt ∧ x1.toInt ≤ 3
  · by_cases g2 : 0 ≤ x2.toInt ∧ x2.toInt ≤ 59
    · by_cases g3 : -4 ≤ x3.toInt ∧ x3.toInt ≤ 4
      · obtain ⟨p, hp, rfl⟩ := r_plan g1
        obtain ⟨c, hc, e1, e2, hr, hs⟩ := hI.1 p hp
        have hi := r_in (k := p) (n := 4) hp (by decide)
        have hcl := r_cl (n := p) (by omega)
        have u9 : f_X9_turn (nI p) x2 x3 m = if nI c < 12 then (f_X5_turnsAt (46 + 3 * p) x2 m).bind fun r2 => if r2 = 0 then (f_X5_insert (46 + 3 * p) x2 x3 m).bind fun r4 => some (r4.1 (46 + 3 * p) 2, r4) else some (-5, m) else some (-4, m) := by
          unfold f_X9_turn
          rw [if_neg (fun e => r_plan9.mp e g1), if_neg (show ¬ f_X9_within x2 0 59 m = 0 from fun e => r_within.mp e g2), if_neg (show ¬ f_X9_within x3 (-4) 4 m = 0 from fun e => r_within.mp e g3), if_pos hi, hcl, e1]
        have u10 : ∀ m1 : q_Mm, m1.1 61 p = nI c → f_X10_turn (nI p) x2 x3 m1 = if nI c = 12 then some (-4, m1) else (l_X10_turn_63 7000 (nI p) x2 x3 (nI c) (nI c) 0 m1).bind fun r3 => match r3 with
          | .inl r5 => some (-5, m1)
          | .inr r6 => (l_X10_turn_95 7000 (nI p) x2 x3 (nI c) m1).bind fun r12 =>
            if q_in ((12 * nI p) + r12.1) 48 = true then
            some ((q_wi (q_wi (q_wi r12.2 59 (((12 * nI p) + r12.1).toNatClampNeg) x2) 60 (((12 * nI p) + r12.1).toNatClampNeg) x3) 61 p (((q_wi (q_wi r12.2 59 (((12 * nI p) + r12.1).toNatClampNeg) x2) 60 (((12 * nI p) + r12.1).toNatClampNeg) x3).1 61 p) + 1)).1 61 p, q_wi (q_wi (q_wi r12.2 59 (((12 * nI p) + r12.1).toNatClampNeg) x2) 60 (((12 * nI p) + r12.1).toNatClampNeg) x3) 61 p (((q_wi (q_wi r12.2 59 (((12 * nI p) + r12.1).toNatClampNeg) x2) 60 (((12 * nI p) + r12.1).toNatClampNeg) x3).1 61 p) + 1)) else none := by
          intro m1 e
          unfold f_X10_turn
          rw [if_neg (fun e => r_plan10.mp e g1), if_neg (show ¬ f_X10_in x2.toInt64 0 59 m1 = 0 from fun e => r_inn.mp e g2), if_neg (show ¬ f_X10_in x3.toInt64 (-4) 4 m1 = 0 from fun e => r_inn.mp e g3), if_pos hi, hcl, e]
          simp only [hi, if_true]
          congr 1
          congr 1
          funext r3
          cases r3 with
          | inl r => rfl
          | inr r =>
            dsimp only
            congr 1
            funext r12
            by_cases hq : q_in ((12 * nI p) + r12.1) 48 = true
            · simp only [hq, if_true]
            · rw [if_neg hq, if_neg hq]
        by_cases hN : c = 12
        · subst hN
          refine ⟨-4, m, m, ?_, ?_, hI⟩
          · rw [u9, if_neg (by decide)]
          · rw [u10 m e2, if_pos (by decide)]
        · have hlt : c < 12 := by omega
          have h12 : nI c < 12 := nI_lt hlt (by decide)
          have h12' : ¬ nI c = 12 := fun e => hN ((nI_eq (by omega) (by decide)).mp e)
          by_cases hx : ∃ j, 0 ≤ j ∧ j < c ∧ m.1 59 (12 * p + j) = x2
          · refine ⟨-5, m, m, ?_, ?_, hI⟩
            · obtain ⟨j, j0, j1, j2⟩ := hx
              rw [u9, if_pos h12, f_turnsAt1 (by omega) e1 ⟨j, j0, j1, by rw [(hr j j1).1]; exact j2⟩]
              rfl
            · rw [u10 m e2, if_neg h12', show l_X10_turn_63 7000 (nI p) x2 x3 (nI c) (nI c) 0 m = some (.inl ()) from turn63_yes hp (by omega) c 0 7000 (by omega) (by omega) hx]
              rfl
          · have hx' : ∀ j, 0 ≤ j → j < c → ¬ m.1 59 (12 * p + j) = x2 := fun j h0 h1 h2 => hx ⟨j, h0, h1, h2⟩
            obtain ⟨pos, m', s0, s1, s2, s3, s4⟩ := f_insert (x1 := x2) (x2 := x3) hlt e1
            have f59 : (q_wi (q_wi (q_wi m' (46 + 3 * p + 1) pos x2) (46 + 3 * p + 2) pos x3) (46 + 3 * p) 2 (nI (c + 1))).1 59 = m.1 59 := by rw [r_row (by omega), r_row (by omega), r_row (by omega), s1.2.1 59 (by omega) (by omega)]
            have f60 : (q_wi (q_wi (q_wi m' (46 + 3 * p + 1) pos x2) (46 + 3 * p + 2) pos x3) (46 + 3 * p) 2 (nI (c + 1))).1 60 = m.1 60 := by rw [r_row (by omega), r_row (by omega), r_row (by omega), s1.2.1 60 (by omega) (by omega)]
            have f61 : (q_wi (q_wi (q_wi m' (46 + 3 * p + 1) pos x2) (46 + 3 * p + 2) pos x3) (46 + 3 * p) 2 (nI (c + 1))).1 61 = m.1 61 := by rw [r_row (by omega), r_row (by omega), r_row (by omega), s1.2.1 61 (by omega) (by omega)]
            obtain ⟨pos2, m2', t0, t2, t1, t3, t4⟩ := turn95_l (p := p) (x2 := x2) (x3 := x3) hp c 7000 (q_wi (q_wi (q_wi m' (46 + 3 * p + 1) pos x2) (46 + 3 * p + 2) pos x3) (46 + 3 * p) 2 (nI (c + 1))) hlt (by omega)
            rw [f59] at t3 t4
            have hpp : pos2 = pos := by
              rcases Nat.lt_trichotomy pos pos2 with h | h | h
              · rcases t3 with z | z
                · omega
                · have := s3 (pos2 - 1) (by omega) (by omega)
                  rw [(hr (pos2 - 1) (by omega)).1] at this
                  exact absurd z this
              · exact h.symm
              · rcases s2 with z | z
                · omega
                · have := t4 (pos - 1) (by omega) (by omega)
                  rw [(hr (pos - 1) (by omega)).1] at z
                  exact absurd z this
            subst hpp
            refine ⟨nI (c + 1), q_wi (q_wi (q_wi m' (46 + 3 * p + 1) pos2 x2) (46 + 3 * p + 2) pos2 x3) (46 + 3 * p) 2 (nI (c + 1)), q_wi (q_wi (q_wi m2' 59 (12 * p + pos2) x2) 60 (12 * p + pos2) x3) 61 p (nI (c + 1)), ?_, ?_, ?_⟩
            · rw [u9, if_pos h12, f_turnsAt0 (by omega) e1 (fun j h0 h1 => by rw [(hr j h1).1]; exact hx' j h0 h1), s4]
              simp only [Option.bind_some, r_wi, and_self, if_true]
            · have f61p : (q_wi (q_wi (q_wi m' (46 + 3 * p + 1) pos2 x2) (46 + 3 * p + 2) pos2 x3) (46 + 3 * p) 2 (nI (c + 1))).1 61 p = nI c := by rw [f61, e2]
              rw [u10 _ f61p, if_neg h12', show l_X10_turn_63 7000 (nI p) x2 x3 (nI c) (nI c) 0 (q_wi (q_wi (q_wi m' (46 + 3 * p + 1) pos2 x2) (46 + 3 * p + 2) pos2 x3) (46 + 3 * p) 2 (nI (c + 1))) = some (.inr ()) from turn63_no hp (by omega) c 0 7000 (by omega) (by omega) (by omega) (fun j h0 h1 => by rw [f59]; exact hx' j h0 h1)]
              dsimp only [Option.bind_some]
              rw [t0]
              have e61 : m2'.1 61 p = nI c := by rw [t1.2.1 61 (by omega) (by omega), f61, e2]
              simp only [Option.bind_some, r12p, r_in (show 12 * p + pos2 < 48 by omega) (by decide), if_true, r_cl (show 12 * p + pos2 < 2 ^ 31 by omega), r_wi, Nat.reduceEqDiff, false_and, if_false, e61, nI_1, and_self]
            · obtain ⟨h1, h2, h3, h4, h5, h6, h7, h8, h9, h10⟩ := hI
              refine ⟨?_, IS_s (Sm.wi rfl (Sm.wi rfl (Sm.wi rfl (Sm.shf (fun _ => rfl) (fun _ => rfl) (Sm.wi (sS_pl (by omega) (by omega)) (Sm.wi (sS_pl (by omega) (by omega)) (Sm.wi (sS_pl (by omega) (by omega)) (Sm.shf (fun _ => sS_pl (by omega) (by omega)) (fun _ => sS_pl (by omega) (by omega)) Sm.rf s1)))) t1)))) h2, IF_s (Sm.wi rfl (Sm.wi rfl (Sm.wi rfl (Sm.shf (fun _ => rfl) (fun _ => rfl) (Sm.wi (sF_pl (by omega) (by omega)) (Sm.wi (sF_pl (by omega) (by omega)) (Sm.wi (sF_pl (by omega) (by omega)) (Sm.shf (fun _ => sF_pl (by omega) (by omega)) (fun _ => sF_pl (by omega) (by omega)) Sm.rf s1)))) t1)))) h3, IH_s (Sm.wi rfl (Sm.wi rfl (Sm.wi rfl (Sm.shf (fun _ => rfl) (fun _ => rfl) (Sm.wi (sH_pl (by omega) (by omega)) (Sm.wi (sH_pl (by omega) (by omega)) (Sm.wi (sH_pl (by omega) (by omega)) (Sm.shf (fun _ => sH_pl (by omega) (by omega)) (fun _ => sH_pl (by omega) (by omega)) Sm.rf s1)))) t1)))) h4, IG_s (Sm.wi rfl (Sm.wi rfl (Sm.wi rfl (Sm.shf (fun _ => rfl) (fun _ => rfl) (Sm.wi (sG_pl (by omega) (by omega)) (Sm.wi (sG_pl (by omega) (by omega)) (Sm.wi (sG_pl (by omega) (by omega)) (Sm.shf (fun _ => sG_pl (by omega) (by omega)) (fun _ => sG_pl (by omega) (by omega)) Sm.rf s1)))) t1)))) h5, IL_s (Sm.wi rfl (Sm.wi rfl (Sm.wi rfl (Sm.shf (fun _ => rfl) (fun _ => rfl) (Sm.wi (sL_pl (by omega) (by omega)) (Sm.wi (sL_pl (by omega) (by omega)) (Sm.wi (sL_pl (by omega) (by omega)) (Sm.shf (fun _ => sL_pl (by omega) (by omega)) (fun _ => sL_pl (by omega) (by omega)) Sm.rf s1)))) t1)))) h6, IO_s (Sm.wi rfl (Sm.wi rfl (Sm.wi rfl (Sm.shf (fun _ => rfl) (fun _ => rfl) (Sm.wi (sO_pl (by omega) (by omega)) (Sm.wi (sO_pl (by omega) (by omega)) (Sm.wi (sO_pl (by omega) (by omega)) (Sm.shf (fun _ => sO_pl (by omega) (by omega)) (fun _ => sO_pl (by omega) (by omega)) Sm.rf s1)))) t1)))) h7, ID_s (Sm.wi rfl (Sm.wi rfl (Sm.wi rfl (Sm.shf (fun _ => rfl) (fun _ => rfl) (Sm.wi (sD_pl (by omega) (by omega)) (Sm.wi (sD_pl (by omega) (by omega)) (Sm.wi (sD_pl (by omega) (by omega)) (Sm.shf (fun _ => sD_pl (by omega) (by omega)) (fun _ => sD_pl (by omega) (by omega)) Sm.rf s1)))) t1)))) h8, IT_s (Sm.wi rfl (Sm.wi rfl (Sm.wi rfl (Sm.shf (fun _ => rfl) (fun _ => rfl) (Sm.wi (sT_pl (by omega) (by omega)) (Sm.wi (sT_pl (by omega) (by omega)) (Sm.wi (sT_pl (by omega) (by omega)) (Sm.shf (fun _ => sT_pl (by omega) (by omega)) (fun _ => sT_pl (by omega) (by omega)) Sm.rf s1)))) t1)))) h9, IR_s (Sm.wi rfl (Sm.wi rfl (Sm.wi rfl (Sm.shf (fun _ => rfl) (fun _ => rfl) (Sm.wi (sR_pl (by omega) (by omega)) (Sm.wi (sR_pl (by omega) (by omega)) (Sm.wi (sR_pl (by omega) (by omega)) (Sm.shf (fun _ => sR_pl (by omega) (by omega)) (fun _ => sR_pl (by omega) (by omega)) Sm.rf s1)))) t1)))) h10⟩
              intro p' hp'
              by_cases hq : p' = p
              · subst hq
                have hC1 : ∀ i, (q_wi (q_wi (q_wi m2' 59 (12 * p' + pos2) x2) 60 (12 * p' + pos2) x3) 61 p' (nI (c + 1))).1 (46 + 3 * p' + 1) i = if i = pos2 then x2 else if pos2 < i ∧ i ≤ c then m.1 (46 + 3 * p' + 1) (i - 1) else m.1 (46 + 3 * p' + 1) i := by
                  intro i
                  rw [r_row (by omega), r_row (by omega), r_row (by omega), t1.2.1 _ (by omega) (by omega), r_row (by omega), r_row (by omega), r_wi, s1.2.2.1 i]
                  simp only [true_and, Nat.zero_add]
                have hC2 : ∀ i, (q_wi (q_wi (q_wi m2' 59 (12 * p' + pos2) x2) 60 (12 * p' + pos2) x3) 61 p' (nI (c + 1))).1 (46 + 3 * p' + 2) i = if i = pos2 then x3 else if pos2 < i ∧ i ≤ c then m.1 (46 + 3 * p' + 2) (i - 1) else m.1 (46 + 3 * p' + 2) i := by
                  intro i
                  rw [r_row (by omega), r_row (by omega), r_row (by omega), t1.2.1 _ (by omega) (by omega), r_row (by omega), r_wi, r_row (by omega), s1.2.2.2 i]
                  simp only [true_and, Nat.zero_add]
                have hM1 : ∀ i, (q_wi (q_wi (q_wi m2' 59 (12 * p' + pos2) x2) 60 (12 * p' + pos2) x3) 61 p' (nI (c + 1))).1 59 (12 * p' + i) = if i = pos2 then x2 else if pos2 < i ∧ i ≤ c then m.1 59 (12 * p' + (i - 1)) else m.1 59 (12 * p' + i) := by
                  intro i
                  rw [r_row (by omega), r_row (by omega), r_wi, t1.2.2.1, f59]
                  by_cases z1 : i = pos2
                  · rw [if_pos (by omega), if_pos z1]
                  · rw [if_neg (by omega), if_neg z1]
                    by_cases z2 : pos2 < i ∧ i ≤ c
                    · rw [if_pos (by omega), if_pos z2, show 12 * p' + i - 1 = 12 * p' + (i - 1) by omega]
                    · rw [if_neg (by omega), if_neg z2]
                have hM2 : ∀ i, (q_wi (q_wi (q_wi m2' 59 (12 * p' + pos2) x2) 60 (12 * p' + pos2) x3) 61 p' (nI (c + 1))).1 60 (12 * p' + i) = if i = pos2 then x3 else if pos2 < i ∧ i ≤ c then m.1 60 (12 * p' + (i - 1)) else m.1 60 (12 * p' + i) := by
                  intro i
                  rw [r_row (by omega), r_wi, r_row (by omega), t1.2.2.2, f60]
                  by_cases z1 : i = pos2
                  · rw [if_pos (by omega), if_pos z1]
                  · rw [if_neg (by omega), if_neg z1]
                    by_cases z2 : pos2 < i ∧ i ≤ c
                    · rw [if_pos (by omega), if_pos z2, show 12 * p' + i - 1 = 12 * p' + (i - 1) by omega]
                    · rw [if_neg (by omega), if_neg z2]
                refine ⟨c + 1, by omega, ?_, ?_, fun i hi => ?_, fun i j hij hj => ?_⟩
                · rw [r_row (by omega), r_row (by omega), r_row (by omega), t1.2.1 _ (by omega) (by omega), r_wi, if_pos ⟨rfl, rfl⟩]
                · rw [r_wi, if_pos ⟨rfl, rfl⟩]
                · rw [hC1, hC2, hM1, hM2]
                  by_cases z1 : i = pos2
                  · simp only [if_pos z1]
                    exact ⟨trivial, trivial, g2.1, g2.2, g3⟩
                  · simp only [if_neg z1]
                    by_cases z2 : pos2 < i ∧ i ≤ c
                    · simp only [if_pos z2]
                      exact hr (i - 1) (by omega)
                    · simp only [if_neg z2]
                      exact hr i (by omega)
                · have lo : ∀ k, k < pos2 → (m.1 59 (12 * p' + k)).toInt < x2.toInt := by
                    intro k hk
                    rcases s2 with z | z
                    · omega
                    · rw [(hr (pos2 - 1) (by omega)).1, r_le] at z
                      have hne : ¬ (m.1 59 (12 * p' + (pos2 - 1))).toInt = x2.toInt := fun e => hx' (pos2 - 1) (Nat.zero_le _) (by omega) (r_eq.mpr e)
                      rcases Nat.lt_or_ge k (pos2 - 1) with y | y
                      · have := hs k (pos2 - 1) y (by omega)
                        omega
                      · rw [show k = pos2 - 1 by omega]
                        omega
                  have up : ∀ k, pos2 ≤ k → k < c → x2.toInt < (m.1 59 (12 * p' + k)).toInt := by
                    intro k hk hk2
                    have := t4 k hk hk2
                    rw [r_le] at this
                    omega
                  rw [hM1, hM1]
                  by_cases y1 : i = pos2
                  · rw [if_pos y1, if_neg (by omega), if_pos (by omega)]
                    exact up (j - 1) (by omega) (by omega)
                  · rw [if_neg y1]
                    by_cases y2 : pos2 < i ∧ i ≤ c
                    · rw [if_pos y2, if_neg (by omega), if_pos (by omega)]
                      exact hs (i - 1) (j - 1) (by omega) (by omega)
                    · rw [if_neg y2]
                      by_cases y3 : j = pos2
                      · rw [if_pos y3]
                        exact lo i (by omega)
                      · rw [if_neg y3]
                        by_cases y4 : pos2 < j ∧ j ≤ c
                        · rw [if_pos y4]
                          rcases Nat.lt_or_ge i (j - 1) with y5 | y5
                          · exact hs i (j - 1) y5 (by omega)
                          · omega
                        · rw [if_neg y4]
                          exact hs i j hij (by omega)
              · obtain ⟨c', k1, k2, k3, k4, k5⟩ := h1 p' hp'
                have rr : ∀ k, 46 + 3 * p' ≤ k → k ≤ 46 + 3 * p' + 2 → (q_wi (q_wi (q_wi m2' 59 (12 * p + pos2) x2) 60 (12 * p + pos2) x3) 61 p (nI (c + 1))).1 k = m.1 k := by
                  intro k z1 z2
                  rw [r_row (by omega), r_row (by omega), r_row (by omega), t1.2.1 _ (by omega) (by omega), r_row (by omega), r_row (by omega), r_row (by omega), s1.2.1 _ (by omega) (by omega)]
                have r59 : ∀ i, i < 12 → (q_wi (q_wi (q_wi m2' 59 (12 * p + pos2) x2) 60 (12 * p + pos2) x3) 61 p (nI (c + 1))).1 59 (12 * p' + i) = m.1 59 (12 * p' + i) := by
                  intro i hi
                  rw [r_row (by omega), r_row (by omega), r_wi, if_neg (by omega), t1.2.2.1, if_neg (by omega), f59]
                have r60 : ∀ i, i < 12 → (q_wi (q_wi (q_wi m2' 59 (12 * p + pos2) x2) 60 (12 * p + pos2) x3) 61 p (nI (c + 1))).1 60 (12 * p' + i) = m.1 60 (12 * p' + i) := by
                  intro i hi
                  rw [r_row (by omega), r_wi, if_neg (by omega), r_row (by omega), t1.2.2.2, if_neg (by omega), f60]
                refine ⟨c', k1, ?_, ?_, fun i hi => ?_, fun i j hij hj => ?_⟩
                · rw [rr _ (by omega) (by omega)]; exact k2
                · rw [r_wi, if_neg (by omega), r_row (by omega), r_row (by omega), t1.2.1 _ (by omega) (by omega), f61]; exact k3
                · rw [rr (46 + 3 * p' + 1) (by omega) (by omega), rr (46 + 3 * p' + 2) (by omega) (by omega), r59 i (by omega), r60 i (by omega)]; exact k4 i hi
                · rw [r59 i (by omega), r59 j (by omega)]; exact k5 i j hij hj
      · refine ⟨-2, m, m, ?_, ?_, hI⟩
        · unfold f_X9_turn
          rw [if_neg (fun e => r_plan9.mp e g1), if_neg (show ¬ f_X9_within x2 0 59 m = 0 from fun e => r_within.mp e g2), if_pos (show f_X9_within x3 (-4) 4 m = 0 from r_within.mpr g3)]
        · unfold f_X10_turn
          rw [if_neg (fun e => r_plan10.mp e g1), if_neg (show ¬ f_X10_in x2.toInt64 0 59 m = 0 from fun e => r_inn.mp e g2), if_pos (show f_X10_in x3.toInt64 (-4) 4 m = 0 from r_inn.mpr g3)]
    · refine ⟨-2, m, m, ?_, ?_, hI⟩
      · unfold f_X9_turn
        rw [if_neg (fun e => r_plan9.mp e g1), if_pos (show f_X9_within x2 0 59 m = 0 from r_within.mpr g2)]
      · unfold f_X10_turn
        rw [if_neg (fun e => r_plan10.mp e g1), if_pos (show f_X10_in x2.toInt64 0 59 m = 0 from r_inn.mpr g2)]
  · refine ⟨-1, m, m, ?_, ?_, hI⟩
    · unfold f_X9_turn
      rw [if_pos (r_plan9.mpr g1)]
    · unfold f_X10_turn
      rw [if_pos (r_plan10.mpr g1)]
