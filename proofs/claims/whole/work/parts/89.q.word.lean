/-! PURE: word -/
theorem ftill9 {m : q_Mm} {v d K : Nat} (hd : d ≤ 40) (hK : K ≤ d) (e : m.1 v 2 = nI d) : f_X8_fuelTill v (nI K) m = some (nI (pMoves (m.1 (v + 1)) K)) := by
  have l := qlp7g (fun f i (z : Int32) => l_X8_fuelTill_4 f v (nI K) z (nI i) m) (K + 1) 1 (fun i => nI (pMoves (m.1 (v + 1)) (i - 1))) (fun z => z) (by omega) (by omega)
    (fun f => by
      show l_X8_fuelTill_4 (f + 1) _ _ _ _ _ = _
      unfold l_X8_fuelTill_4
      rw [if_pos (show nI K < nI (K + 1) by rw [r_lt, r_nI (by omega), r_nI (by omega)]; omega)])
    (fun f i i1 i2 => by
      show l_X8_fuelTill_4 (f + 1) _ _ _ _ _ = l_X8_fuelTill_4 f _ _ _ _ _
      conv => lhs; unfold l_X8_fuelTill_4
      rw [if_neg (show ¬ nI K < nI i by rw [r_lt, r_nI (by omega), r_nI (by omega)]; omega), e, if_neg (show ¬ nI d < nI i by rw [r_lt, r_nI (by omega), r_nI (by omega)]; omega), if_pos (r_in (show i < 41 by omega) (by decide)), nI_m1 (by omega), if_pos (r_in (show i - 1 < 41 by omega) (by decide)), r_cl (by omega), r_cl (by omega), nI_1, nI_1, show i + 1 - 1 = (i - 1) + 1 by omega]
      have pe : pMoves (m.1 (v + 1)) (i - 1 + 1) = pMoves (m.1 (v + 1)) (i - 1) + (if m.1 (v + 1) (i - 1 + 1) = m.1 (v + 1) (i - 1) then 0 else 1) := rfl
      rw [pe, show i - 1 + 1 = i by omega]
      by_cases h : m.1 (v + 1) i = m.1 (v + 1) (i - 1)
      · rw [if_pos h, if_pos h]
        rfl
      · rw [if_neg h, if_neg h])
  unfold f_X8_fuelTill
  rw [show l_X8_fuelTill_4 7000 v (nI K) 0 1 m = _ from l]
  rfl
theorem ok_word : q_OK_word Inv := by
  intro b x1 x2 m hI
  have a9 : ∀ m, f_X9_within x1 0 40 m = 0 ↔ ¬ (0 ≤ x1.toInt ∧ x1.toInt ≤ 40) := fun m => r_within
  have a10 : ∀ m, f_X10_in x1.toInt64 0 40 m = 0 ↔ ¬ (0 ≤ x1.toInt ∧ x1.toInt ≤ 40) := fun m => r_inn
  have hD : ID m := hI.2.2.2.2.2.2.2.1
  have hIR := hI.2.2.2.2.2.2.2.2.2
  by_cases n1 : ¬ (0 ≤ x2.toInt ∧ x2.toInt ≤ 143)
  · refine ⟨-1, m, m, ?_, ?_, hI⟩
    · unfold f_X9_word; rw [if_pos (cell9i.mpr n1)]
    · unfold f_X10_word; rw [if_pos (cell10i.mpr n1)]
  have h1 := Classical.not_not.mp n1
  by_cases n2 : ¬ (0 ≤ x1.toInt ∧ x1.toInt ≤ 40)
  · refine ⟨-2, m, m, ?_, ?_, hI⟩
    · unfold f_X9_word; rw [if_neg (fun w => cell9i.mp w h1), if_pos ((a9 m).mpr n2)]
    · unfold f_X10_word; rw [if_neg (fun w => cell10i.mp w h1), if_pos ((a10 m).mpr n2)]
  have h2 := Classical.not_not.mp n2
  have c00 : ((0 : Int32).toNatClampNeg) = 0 := rfl
  rcases hIR.1 with ⟨z1, z2⟩ | ⟨z1, z2, d, z3, z4, z5, z6, z7⟩
  · refine ⟨-3, m, m, ?_, ?_, hI⟩
    · unfold f_X9_word; rw [if_neg (fun w => cell9i.mp w h1), if_neg (fun w => (a9 m).mp w h2), if_pos z1]
    · unfold f_X10_word; rw [if_neg (fun w => cell10i.mp w h1), if_neg (fun w => (a10 m).mp w h2), c00, if_pos z2]
  have nz1 : ¬ m.1 34 0 = 0 := by rw [z1]; decide
  have nz2 : ¬ m.1 84 0 = 0 := by rw [z2]; decide
  obtain ⟨K, hK, rfl⟩ := r_of h2.1 (n := 41) (by omega) (by decide)
  obtain ⟨to, hto, rfl⟩ := r_of h1.1 (n := 144) (by omega) (by decide)
  by_cases hKd : ¬ (K ≤ d)
  · refine ⟨-2, m, m, ?_, ?_, hI⟩
    · unfold f_X9_word; rw [if_neg (fun w => cell9i.mp w h1), if_neg (fun w => (a9 m).mp w h2), if_neg nz1, z4, if_neg (nI_ge (by omega) (by omega))]
    · unfold f_X10_word; rw [if_neg (fun w => cell10i.mp w h1), if_neg (fun w => (a10 m).mp w h2), c00, if_neg nz2, z5, if_neg (nI_ge (by omega) (by omega))]
  have hKd := Classical.not_not.mp hKd
  obtain ⟨t, f, ht, hf, t1, t2, t3, t4, t5⟩ := hIR.2.2 z1
  obtain ⟨t6, t7⟩ := t5 d z4 z3
  have hmono : ∀ k, pMoves (m.1 35) K ≤ pMoves (m.1 35) (K + k) := fun k => by
    induction k with
    | zero => exact Nat.le_refl _
    | succ k ih => exact Nat.le_trans ih (Nat.le_add_right _ _)
  have hu : pMoves (m.1 35) K ≤ f := by
    have := hmono (d - K)
    rw [show K + (d - K) = d by omega] at this
    omega
  have hu40 := pMoves_le (m.1 35) K
  obtain ⟨zc, c0, hc, ec⟩ := z7 K hKd
  have hzc : m.1 82 K = nI c0 := by
    rw [← ec, zc, show 41 * 0 + K = K by omega]
  have hDR : ∀ c, c < 144 → -1 ≤ (m.1 81 c).toInt ∧ (m.1 81 c).toInt ≤ 99 := fun c hc => (hD c hc).2
  have hg : ∀ c, dgA (m.1 81) c ≤ 99 := fun c => dgD_le (I := m.1) hDR c
  have g34 : (q_pm b m).1 34 = m.1 34 := pm_row (by decide) (by decide) (by decide)
  have g35 : (q_pm b m).1 35 = m.1 35 := pm_row (by decide) (by decide) (by decide)
  have hcell : f_X8_cellOn 34 (nI K) (q_pm b m) = some (nI c0) := by
    rw [cellOn9 z3 (by rw [g34]; exact z4) (by omega), if_pos hKd, g35, ec]
  have p9 : f_X9_word b (nI K) (nI to) m = ((f_X4_findAlone (nI c0) (nI to) (nI (t - K)) (nI (f - pMoves (m.1 35) K)) (q_pm b m)).bind fun r5 => if r5.1 = 0 then some (((-5), r5.2)) else (f_X4_write 34 (nI K) (nI (pMoves (m.1 35) K)) r5.2).bind fun r7 => some (((f_X4_foundDanger r7), r7))) := by
    unfold f_X9_word
    rw [if_neg (fun w => cell9i.mp w h1), if_neg (fun w => (a9 m).mp w h2), if_neg nz1, z4, if_pos (nI_le hKd (by omega)), ftill9 z3 hKd z4, Option.bind_some, hcell, Option.bind_some, g34, t1, t3, nI_sub' (by omega) (by omega), nI_sub' hu (by omega)]
  have p10 : ∀ s, (∀ q, ¬ q = 34 → ¬ q = 35 → ¬ q = 89 → ¬ q = 90 → ¬ q = 91 → s.1 q = m.1 q) → f_X10_word (nI K) (nI to) s = ((f_X10_find 0 (nI c0) (nI to) (nI (t - K)) (nI (f - pMoves (m.1 35) K)) (nI K) (q_wi s 58 42 (-1))).bind fun r1 => if r1.1 = 1000000000 then some (((-5), r1.2)) else some ((r1.1 / 10000, r1.2))) := by
    intro s hs
    have s82 : s.1 82 = m.1 82 := hs 82 (by decide) (by decide) (by decide) (by decide) (by decide)
    have s83 : s.1 83 = m.1 83 := hs 83 (by decide) (by decide) (by decide) (by decide) (by decide)
    have s84 : s.1 84 = m.1 84 := hs 84 (by decide) (by decide) (by decide) (by decide) (by decide)
    have s58 : s.1 58 = m.1 58 := hs 58 (by decide) (by decide) (by decide) (by decide) (by decide)
    have hft := fuel10 (m := q_wi s 58 42 (-1)) (w := 0) (d := K) (by decide) (by omega)
    rw [r_row (by decide), s82] at hft
    have hpm : pMoves (fun j => m.1 82 (41 * 0 + j)) K = pMoves (m.1 35) K := pMoves_congr K (fun i hi => (z7 i (by omega)).1.symm)
    rw [hpm] at hft
    unfold f_X10_word
    rw [if_neg (fun w => cell10i.mp w h1), if_neg (fun w => (a10 s).mp w h2), c00, s84, if_neg nz2, s83, z5, if_pos (nI_le hKd (by omega)), if_pos (r_in (show K < 82 by omega) (by decide)), show f_X10_fuelTill 0 (nI K) (q_wi s 58 42 (-1)) = _ from hft, Option.bind_some, r_cl (by omega), r_row (show ¬ 82 = 58 by decide), s82, hzc, r_wi, if_neg (by omega), r_wi, if_neg (by omega), s58, t2, t4, nI_sub' (by omega) (by omega), nI_sub' hu (by omega)]
  rcases al_both (b := b) (K := K) (us := nI (pMoves (m.1 35) K)) (T := t - K) (F := f - pMoves (m.1 35) K) hD hc hto (by omega) (by omega) (by omega) with ⟨s1, b1, b2, b3⟩ | ⟨s1, s2, L, b1, b2, b3, b4, b5, b6, b7, b8, b9, b10, b11, b12⟩
  · obtain ⟨s2, c1, c2⟩ := (ref_al (s3 := s1) (R := m.1 81) (K := K) (T := t - K) (F := f - pMoves (m.1 35) K) (c0 := c0) (to := to) (b2 81 (by decide) (by decide) (by decide)) hDR hc hto (by omega) (by omega) (by omega)).1 b3
    refine ⟨-5, s1, s2, ?_, ?_, ?_⟩
    · rw [p9, b1, Option.bind_some, if_pos rfl]
    · rw [p10 s1 (fun q _ _ h3 h4 h5 => b2 q h3 h4 h5), c1, Option.bind_some, if_pos rfl]
    · refine Inv_N (fun q d1 d2 d3 d4 j d5 => ?_) hI
      rw [c2 q d1, r_wi, if_neg d5, b2 q d2 d3 d4]
  · have hLT := b5.1
    have hKl := Kal_in hg (by omega) b4
    obtain ⟨s4, c1, c2, c3, c4, c5⟩ := (ref_al (s3 := s2) (R := m.1 81) (K := K) (T := t - K) (F := f - pMoves (m.1 35) K) (c0 := c0) (to := to) (b7 81 (by decide) (by decide) (by decide) (by decide) (by decide)) hDR hc hto (by omega) (by omega) (by omega)).2 b3 b4 L b5
    refine ⟨nI (Kal (m.1 81) to (t - K) (f - pMoves (m.1 35) K) c0 / 10000), s2, s4, ?_, ?_, ?_⟩
    · rw [p9, b1, Option.bind_some, if_neg (show ¬ (1 : Int32) = 0 by decide), b2, Option.bind_some, b6 _ rfl]
    · rw [p10 s2 b7, c1, Option.bind_some]
      unfold dpN at *
      rw [if_neg (show ¬ nI (Kal (m.1 81) to (t - K) (f - pMoves (m.1 35) K) c0) = 1000000000 from fun w => b4 ((nI_eq (b := 1000000000) (by omega) (by decide)).mp w)), show nI (Kal (m.1 81) to (t - K) (f - pMoves (m.1 35) K) c0) / 10000 = nI (Kal (m.1 81) to (t - K) (f - pMoves (m.1 35) K) c0 / 10000) from pk_div (d := 10000) (by omega) (by decide) (by decide)]
    · have e34 : s4.1 34 = s2.1 34 := by
        rw [c2 34 (by decide) (by decide) (by decide) (by decide), r_row (by decide)]
      have e35 : s4.1 35 = s2.1 35 := by
        rw [c2 35 (by decide) (by decide) (by decide) (by decide), r_row (by decide)]
      have e36 : s4.1 36 = m.1 36 := by
        rw [c2 36 (by decide) (by decide) (by decide) (by decide), r_row (by decide)]
        exact b7 36 (by decide) (by decide) (by decide) (by decide) (by decide)
      have e37 : s4.1 37 = m.1 37 := by
        rw [c2 37 (by decide) (by decide) (by decide) (by decide), r_row (by decide)]
        exact b7 37 (by decide) (by decide) (by decide) (by decide) (by decide)
      have e58 : ∀ j, ¬ j = 42 → s4.1 58 j = m.1 58 j := fun j hj => by
        rw [c2 58 (by decide) (by decide) (by decide) (by decide), r_wi, if_neg (fun w => hj w.2), b7 58 (by decide) (by decide) (by decide) (by decide) (by decide)]
      have m82 := b7 82 (by decide) (by decide) (by decide) (by decide) (by decide)
      have m83 := b7 83 (by decide) (by decide) (by decide) (by decide) (by decide)
      have m84 := b7 84 (by decide) (by decide) (by decide) (by decide) (by decide)
      rw [m82] at c3
      rw [m83] at c4
      rw [m84] at c5
      have hpm := rp_fin (K := K) hg (show t - K ≤ 40 by omega) b5 (p := s2.1 35) (fun n hn => by
        rw [b8 (K + n), if_pos ⟨by omega, by omega⟩, show K + n - K = n by omega])
      have hpK : pMoves (s2.1 35) K = pMoves (m.1 35) K := pMoves_congr K (fun i hi => by
        rw [b8 i]
        by_cases hiK : i = K
        · rw [if_pos ⟨by omega, by omega⟩, hiK, Nat.sub_self, ec]
          rfl
        · rw [if_neg (by omega)])
      rw [hpK] at hpm
      refine Inv_R (fun q j hq => ?_) hI ⟨.inr ⟨?_, ?_, K + L, by omega, ?_, ?_, ?_, fun i hi => ⟨?_, ?_⟩⟩, ?_, fun _ => ⟨t, f, ht, hf, ?_, ?_, ?_, ?_, fun d' hd hd2 => ?_⟩⟩
      · have n1 : ¬ q = 34 := by rintro rfl; cases hq
        have n2 : ¬ q = 35 := by rintro rfl; cases hq
        have n3 : ¬ q = 82 := by rintro rfl; cases hq
        have n4 : ¬ q = 83 := by rintro rfl; cases hq
        have n5 : ¬ q = 84 := by rintro rfl; cases hq
        have n6 : ¬ q = 85 := by rintro rfl; cases hq
        have n7 : ¬ q = 89 := by rintro rfl; cases hq
        have n8 : ¬ q = 90 := by rintro rfl; cases hq
        have n9 : ¬ q = 91 := by rintro rfl; cases hq
        have t3 : ¬ (q = 58 ∧ j = 42) := by rintro ⟨rfl, rfl⟩; cases hq
        rw [c2 q n3 n4 n5 n6, r_wi, if_neg t3, b7 q n1 n2 n7 n8 n9]
      · rw [e34]; exact b9
      · rw [c5, if_pos rfl]
      · rw [e34]; exact b10
      · rw [c4, if_pos rfl]
      · rw [e34, e35, b11, nI_add, hpm]
        rfl
      · rw [e35, c3, b8 i, show 41 * 0 + i = i by omega]
        by_cases hi2 : K ≤ i ∧ i ≤ K + L
        · rw [if_pos hi2, if_pos hi2]
        · rw [if_neg hi2, if_neg hi2]
          have := (z7 i (by omega)).1
          rw [show 41 * 0 + i = i by omega] at this
          exact this
      · rw [e35, b8 i]
        by_cases hi2 : K ≤ i ∧ i ≤ K + L
        · rw [if_pos hi2]
          exact ⟨_, (b5.2.2.2 (i - K) (by omega)).2.1, rfl⟩
        · rw [if_neg hi2]
          exact (z7 i (by omega)).2
      · rcases hIR.2.1 with ⟨y1, y2⟩ | ⟨y1, y2, dd, y3, y4, y5, y6, y7⟩
        · exact .inl ⟨by rw [e36]; exact y1, by rw [c5, if_neg (by decide)]; exact y2⟩
        · refine .inr ⟨by rw [e36]; exact y1, by rw [c5, if_neg (by decide)]; exact y2, dd, y3, by rw [e36]; exact y4, by rw [c4, if_neg (by decide)]; exact y5, by rw [e36, e37]; exact y6, fun i hi => ?_⟩
          rw [e37, c3, if_neg (by omega)]
          exact y7 i hi
      · rw [e34, b12 4 (by decide) (by decide) (by decide)]; exact t1
      · rw [e58 40 (by decide)]; exact t2
      · rw [e34, b12 5 (by decide) (by decide) (by decide)]; exact t3
      · rw [e58 41 (by decide)]; exact t4
      · rw [e34, b10, nI_eq (by omega) (by omega)] at hd
        rw [e35, ← hd, hpm]
        refine ⟨by omega, ?_⟩
        have := hKl.1
        unfold Kal at this
        omega
