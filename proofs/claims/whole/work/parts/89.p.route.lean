/-! PURE: route, word -/
def rtB (q j : Nat) : Bool := match q with
  | 34 => true | 35 => true | 36 => true | 37 => true | 82 => true | 83 => true | 84 => true | 85 => true | 89 => true | 90 => true | 91 => true
  | 58 => Nat.ble 40 j && Nat.ble j 42 | _ => false
theorem rt58 {j : Nat} (h : (Nat.ble 40 j && Nat.ble j 42) = true) : j = 40 ∨ j = 41 ∨ j = 42 := by
  rw [Bool.and_eq_true] at h
  have a := Nat.le_of_ble_eq_true h.1
  have b := Nat.le_of_ble_eq_true h.2
  omega
theorem rt_no {f : Nat → Nat → Bool} (h : ∀ q, q = 34 ∨ q = 35 ∨ q = 36 ∨ q = 37 ∨ q = 82 ∨ q = 83 ∨ q = 84 ∨ q = 85 ∨ q = 89 ∨ q = 90 ∨ q = 91 → ∀ j, f q j = false) (h58 : f 58 40 = false ∧ f 58 41 = false ∧ f 58 42 = false) {k j : Nat} (hk : f k j = true) : rtB k j = false := by
  cases hr : rtB k j with
  | false => rfl
  | true =>
    exfalso
    by_cases h5 : k = 58
    · subst h5
      rcases rt58 hr with rfl | rfl | rfl
      · rw [h58.1] at hk; cases hk
      · rw [h58.2.1] at hk; cases hk
      · rw [h58.2.2] at hk; cases hk
    · have : k = 34 ∨ k = 35 ∨ k = 36 ∨ k = 37 ∨ k = 82 ∨ k = 83 ∨ k = 84 ∨ k = 85 ∨ k = 89 ∨ k = 90 ∨ k = 91 := by
        unfold rtB at hr
        split at hr <;> first | omega | (cases hr)
      rw [h k this j] at hk
      cases hk
theorem Inv_R {m m' : q_Mm} (h : ∀ q j, rtB q j = false → m'.1 q j = m.1 q j) (hI : Inv m) (hR : IR m') : Inv m' := by
  obtain ⟨h1, h2, h3, h4, h5, h6, h7, h8, h9, _⟩ := hI
  refine ⟨IP_s (fun k j hk => h k j (rt_no (f := sP) ?_ ?_ hk)) h1, IS_s (fun k j hk => h k j (rt_no (f := sS) ?_ ?_ hk)) h2, IF_s (fun k j hk => h k j (rt_no (f := sF) ?_ ?_ hk)) h3, IH_s (fun k j hk => h k j (rt_no (f := sH) ?_ ?_ hk)) h4, IG_s (fun k j hk => h k j (rt_no (f := sG) ?_ ?_ hk)) h5, IL_s (fun k j hk => h k j (rt_no (f := sL) ?_ ?_ hk)) h6, IO_s (fun k j hk => h k j (rt_no (f := sO) ?_ ?_ hk)) h7, ID_s (fun k j hk => h k j (rt_no (f := sD) ?_ ?_ hk)) h8, IT_s (fun k j hk => h k j (rt_no (f := sT) ?_ ?_ hk)) h9, hR⟩
  all_goals first | exact ⟨rfl, rfl, rfl⟩ | (intro q hq j; rcases hq with rfl | rfl | rfl | rfl | rfl | rfl | rfl | rfl | rfl | rfl | rfl <;> rfl)
/-- nothing that Inv reads -/
theorem Inv_N {m m' : q_Mm} (h : ∀ q, ¬ q = 85 → ¬ q = 89 → ¬ q = 90 → ¬ q = 91 → ∀ j, ¬ (q = 58 ∧ j = 42) → m'.1 q j = m.1 q j) (hI : Inv m) : Inv m' := by
  refine Inv_s (fun k j hk => h k ?_ ?_ ?_ ?_ j ?_) hI
  · rintro rfl; cases hk
  · rintro rfl; cases hk
  · rintro rfl; cases hk
  · rintro rfl; cases hk
  · rintro ⟨rfl, rfl⟩; cases hk
theorem al_both {m : q_Mm} {b : Bool} {c0 to T F K : Nat} {us : Int32} (hD : ID m) (hc : c0 < 144) (hto : to < 144) (hT : T ≤ 40) (hF : F ≤ 40) (hKT : K + T ≤ 40) :
    (∃ s1, f_X4_findAlone (nI c0) (nI to) (nI T) (nI F) (q_pm b m) = some (0, s1) ∧ (∀ q, ¬ q = 89 → ¬ q = 90 → ¬ q = 91 → s1.1 q = m.1 q) ∧ (¬ 0 ≤ (m.1 81 c0).toInt ∨ Kal (m.1 81) to T F c0 = dpN)) ∨
    (∃ s1 s2 L, f_X4_findAlone (nI c0) (nI to) (nI T) (nI F) (q_pm b m) = some (1, s1) ∧ f_X4_write 34 (nI K) us s1 = some s2 ∧ 0 ≤ (m.1 81 c0).toInt ∧ ¬ Kal (m.1 81) to T F c0 = dpN ∧ rpE (frA (m.1 81)) (enA (m.1 81) to) (dgA (m.1 81)) T F c0 L ∧ (∀ s' : q_Mm, s'.1 89 = s2.1 89 → f_X4_foundDanger s' = nI (Kal (m.1 81) to T F c0 / 10000)) ∧ (∀ q, ¬ q = 34 → ¬ q = 35 → ¬ q = 89 → ¬ q = 90 → ¬ q = 91 → s2.1 q = m.1 q) ∧ (∀ j, s2.1 35 j = if K ≤ j ∧ j ≤ K + L then nI (rpP (frA (m.1 81)) (enA (m.1 81) to) (dgA (m.1 81)) T F c0 (j - K)).2 else m.1 35 j) ∧ s2.1 34 0 = 1 ∧ s2.1 34 2 = nI (K + L) ∧ s2.1 34 3 = us + nI (Kal (m.1 81) to T F c0 % 100) ∧ ∀ j, ¬ j = 0 → ¬ j = 2 → ¬ j = 3 → s2.1 34 j = m.1 34 j) := by
  have h81 : (q_pm b m).1 81 = m.1 81 := pm_row (by decide) (by decide) (by decide)
  have hD0 : ∀ c, c < 144 → (q_pm b m).1 33 c = (q_pm b m).1 81 c ∧ -1 ≤ ((q_pm b m).1 81 c).toInt ∧ ((q_pm b m).1 81 c).toInt ≤ 99 := fun c hc => by
    rw [h81, pm_row (show ¬ 33 = 89 by decide) (by decide) (by decide)]
    exact hD c hc
  have hg : ∀ c, dgA (m.1 81) c ≤ 99 := fun c => by
    have := dgD_le (I := m.1) (fun c hc => (hD c hc).2) c
    exact this
  obtain ⟨hC, s1, e1, e2⟩ := alone9 hD0 hc hto hT hF
  have ha := al_eq (R := m.1 81) (to := to) (c0 := c0) hg hT hF
  have hcf : cfD (q_pm b m).1 (-1) (min T F + 0) to (min T F + 0) (min T F) c0 = if 0 ≤ (m.1 81 c0).toInt then Kal (m.1 81) to T F c0 else dpN := by
    unfold cfD dpF
    rw [fr_A m1i, en_A m1i (by omega), dgD_A, h81, ha.2]
    unfold frA
    by_cases h : 0 ≤ (m.1 81 c0).toInt
    · rw [if_pos h, if_pos (decide_eq_true h)]
    · rw [if_neg h, decide_eq_false h, if_neg (by decide)]
  have hs1 : ∀ q, ¬ q = 89 → ¬ q = 90 → ¬ q = 91 → s1.1 q = m.1 q := fun q a1 a2 a3 => by
    rw [e2.1.1 q a1 a2, pm_row a1 a2 a3]
  by_cases hl : 0 ≤ (m.1 81 c0).toInt
  · rw [if_pos hl] at hcf
    by_cases hn : Kal (m.1 81) to T F c0 = dpN
    · refine .inl ⟨s1, ?_, hs1, .inr hn⟩
      rw [e1, hcf, if_pos hn]
    · have hn' : ¬ cfD (q_pm b m).1 (-1) (min T F + 0) to (min T F + 0) (min T F) c0 = dpN := by rw [hcf]; exact hn
      obtain ⟨L, hL⟩ := rpE_of (fr := frA (m.1 81)) (en := enA (m.1 81) to) (dg := dgA (m.1 81)) hc hn
      have hLT := hL.1
      obtain ⟨s2, w1, w2, w3, w4, w5, w6, w7⟩ := write9 (K := K) (v := 34) (us := us) (T := T) (F := F) (L := L) hC e2 hT (by rw [fr_A m1i, en_A m1i (by omega), dgD_A, h81]; exact hL) (by rw [fr_A m1i, en_A m1i (by omega), dgD_A, h81]; exact ha.1) hn' (by omega) (by decide)
      rw [fr_A m1i, en_A m1i (by omega), dgD_A, h81] at w3
      rw [hcf] at w6
      refine .inr ⟨s1, s2, L, ?_, w1, hl, hn, hL, fun s' hs' => ?_, fun q a1 a2 a3 a4 a5 => ?_, fun j => ?_, w4, w5, w6, fun j a1 a2 a3 => ?_⟩
      · rw [e1, if_neg hn']
      · rw [danger9 hC e2 hn' (hs'.trans (w2 89 (by decide) (by decide))), hcf]
      · rw [w2 q a1 a2]; exact hs1 q a3 a4 a5
      · rw [w3 j, hs1 35 (by decide) (by decide) (by decide)]
      · rw [w7 j a1 a2 a3, hs1 34 (by decide) (by decide) (by decide)]
  · rw [if_neg hl] at hcf
    refine .inl ⟨s1, ?_, hs1, .inl hl⟩
    rw [e1, if_pos hcf]
theorem cell9i {x : Int32} {m : q_Mm} : f_X9_isCell x m = 0 ↔ ¬ (0 ≤ x.toInt ∧ x.toInt ≤ 143) := r_within
theorem cell10i {x : Int32} {m : q_Mm} : f_X10_isCell x m = 0 ↔ ¬ (0 ≤ x.toInt ∧ x.toInt ≤ 143) := r_inn
theorem voy9 {x y : Int32} {m : q_Mm} : f_X9_isVoyage x y m = 0 ↔ ¬ ((0 ≤ x.toInt ∧ x.toInt ≤ 40) ∧ 0 ≤ y.toInt ∧ y.toInt ≤ 40) := by
  have a : ∀ z : Int32, f_X9_within z 0 40 m = 0 ↔ ¬ (0 ≤ z.toInt ∧ z.toInt ≤ 40) := fun z => r_within
  unfold f_X9_isVoyage
  by_cases h1 : 0 ≤ x.toInt ∧ x.toInt ≤ 40
  · rw [if_neg (fun w => (a x).mp w h1)]
    by_cases h2 : 0 ≤ y.toInt ∧ y.toInt ≤ 40
    · rw [if_neg (fun w => (a y).mp w h2)]
      exact ⟨fun w => absurd w (by decide), fun w => absurd ⟨h1, h2⟩ w⟩
    · rw [if_pos ((a y).mpr h2)]
      exact ⟨fun _ w => h2 w.2, fun _ => rfl⟩
  · rw [if_pos ((a x).mpr h1)]
    exact ⟨fun _ w => h1 w.1, fun _ => rfl⟩
theorem voy10 {x y : Int32} {m : q_Mm} : f_X10_isAllowed x y m = 0 ↔ ¬ ((0 ≤ x.toInt ∧ x.toInt ≤ 40) ∧ 0 ≤ y.toInt ∧ y.toInt ≤ 40) := by
  have a : ∀ z : Int32, f_X10_in z.toInt64 0 40 m = 0 ↔ ¬ (0 ≤ z.toInt ∧ z.toInt ≤ 40) := fun z => r_inn
  unfold f_X10_isAllowed
  by_cases h1 : 0 ≤ x.toInt ∧ x.toInt ≤ 40
  · rw [if_neg (fun w => (a x).mp w h1)]
    by_cases h2 : 0 ≤ y.toInt ∧ y.toInt ≤ 40
    · rw [if_neg (fun w => (a y).mp w h2)]
      exact ⟨fun w => absurd w (by decide), fun w => absurd ⟨h1, h2⟩ w⟩
    · rw [if_pos ((a y).mpr h2)]
      exact ⟨fun _ w => h2 w.2, fun _ => rfl⟩
  · rw [if_pos ((a x).mpr h1)]
    exact ⟨fun _ w => h1 w.1, fun _ => rfl⟩
theorem Kal_in {R : Nat → Int32} {to T F c0 : Nat} (hg : ∀ c, dgA R c ≤ 99) (hT : T ≤ 40) (hn : ¬ Kal R to T F c0 = dpN) : Kal R to T F c0 % 100 ≤ F ∧ Kal R to T F c0 < dpN := by
  have h := dpC_W (fr := frA R) (en := enA R to) hg T (by omega) F c0
  have l := dpW_le h (by omega)
  unfold Kal at *
  rcases h with h | h
  · exact absurd h hn
  · omega
theorem ok_route : q_OK_route Inv := by
  intro b x1 x2 x3 x4 m hI
  by_cases n1 : ¬ (0 ≤ x1.toInt ∧ x1.toInt ≤ 143)
  · refine ⟨-1, m, m, ?_, ?_, hI⟩
    · unfold f_X9_route; rw [if_pos (cell9i.mpr n1)]
    · unfold f_X10_route; rw [if_pos (cell10i.mpr n1)]
  have h1 := Classical.not_not.mp n1
  by_cases n2 : ¬ (0 ≤ x2.toInt ∧ x2.toInt ≤ 143)
  · refine ⟨-1, m, m, ?_, ?_, hI⟩
    · unfold f_X9_route; rw [if_neg (fun w => cell9i.mp w h1), if_pos (cell9i.mpr n2)]
    · unfold f_X10_route; rw [if_neg (fun w => cell10i.mp w h1), if_pos (cell10i.mpr n2)]
  have h2 := Classical.not_not.mp n2
  by_cases n3 : ¬ ((0 ≤ x3.toInt ∧ x3.toInt ≤ 40) ∧ 0 ≤ x4.toInt ∧ x4.toInt ≤ 40)
  · refine ⟨-2, m, m, ?_, ?_, hI⟩
    · unfold f_X9_route; rw [if_neg (fun w => cell9i.mp w h1), if_neg (fun w => cell9i.mp w h2), if_pos (voy9.mpr n3)]
    · unfold f_X10_route; rw [if_neg (fun w => cell10i.mp w h1), if_neg (fun w => cell10i.mp w h2), if_pos (voy10.mpr n3)]
  have h3 := Classical.not_not.mp n3
  obtain ⟨c0, hc, rfl⟩ := r_of h1.1 (n := 144) (by omega) (by decide)
  obtain ⟨to, hto, rfl⟩ := r_of h2.1 (n := 144) (by omega) (by decide)
  obtain ⟨T, hT, rfl⟩ := r_of h3.1.1 (n := 41) (by omega) (by decide)
  obtain ⟨F, hF, rfl⟩ := r_of h3.2.1 (n := 41) (by omega) (by decide)
  have hD : ID m := hI.2.2.2.2.2.2.2.1
  have hIR := hI.2.2.2.2.2.2.2.2.2
  have hDR : ∀ c, c < 144 → -1 ≤ (m.1 81 c).toInt ∧ (m.1 81 c).toInt ≤ 99 := fun c hc => (hD c hc).2
  have hg : ∀ c, dgA (m.1 81) c ≤ 99 := fun c => dgD_le (I := m.1) hDR c
  have p9 : f_X9_route b (nI c0) (nI to) (nI T) (nI F) m = ((f_X4_findAlone (nI c0) (nI to) (nI T) (nI F) (q_pm b m)).bind fun r1 => if r1.1 = 0 then some (((-5), r1.2)) else (f_X4_write 34 0 0 r1.2).bind fun r3 => some (((f_X4_foundDanger (q_wi (q_wi r3 34 4 (nI T)) 34 5 (nI F))), q_wi (q_wi r3 34 4 (nI T)) 34 5 (nI F)))) := by
    unfold f_X9_route
    rw [if_neg (fun w => cell9i.mp w h1), if_neg (fun w => cell9i.mp w h2), if_neg (fun w => voy9.mp w h3)]
  have p10 : ∀ s, f_X10_route (nI c0) (nI to) (nI T) (nI F) s = ((f_X10_find 0 (nI c0) (nI to) (nI T) (nI F) 0 (q_wi s 58 42 (-1))).bind fun r1 => if r1.1 = 1000000000 then some (((-5), r1.2)) else some ((r1.1 / 10000, q_wi (q_wi r1.2 58 40 (nI T)) 58 41 (nI F)))) := by
    intro s
    unfold f_X10_route
    rw [if_neg (fun w => cell10i.mp w h1), if_neg (fun w => cell10i.mp w h2), if_neg (fun w => voy10.mp w h3)]
  rcases al_both (b := b) (K := 0) (us := 0) hD hc hto (show T ≤ 40 by omega) (show F ≤ 40 by omega) (by omega) with ⟨s1, a1, a2, a3⟩ | ⟨s1, s2, L, a1, a2, a3, a4, a5, a6, a7, a8, a9, a10, a11, a12⟩
  · obtain ⟨s2, b1, b2⟩ := (ref_al (s3 := s1) (R := m.1 81) (K := 0) (T := T) (F := F) (c0 := c0) (to := to) (a2 81 (by decide) (by decide) (by decide)) hDR hc hto (by omega) (by omega) (by omega)).1 a3
    refine ⟨-5, s1, s2, ?_, ?_, ?_⟩
    · rw [p9, a1, Option.bind_some, if_pos rfl]
    · rw [p10, show f_X10_find 0 (nI c0) (nI to) (nI T) (nI F) 0 (q_wi s1 58 42 (-1)) = _ from b1, Option.bind_some, if_pos rfl]
    · refine Inv_N (fun q c1 c2 c3 c4 j c5 => ?_) hI
      rw [b2 q c1, r_wi, if_neg c5, a2 q c2 c3 c4]
  · have hLT := a5.1
    have hK := Kal_in hg (by omega) a4
    obtain ⟨s4, b1, b2, b3, b4, b5⟩ := (ref_al (s3 := q_wi (q_wi s2 34 4 (nI T)) 34 5 (nI F)) (R := m.1 81) (K := 0) (T := T) (F := F) (c0 := c0) (to := to) (by
      rw [r_row (by decide), r_row (by decide)]
      exact a7 81 (by decide) (by decide) (by decide) (by decide) (by decide)) hDR hc hto (by omega) (by omega) (by omega)).2 a3 a4 L a5
    refine ⟨nI (Kal (m.1 81) to T F c0 / 10000), q_wi (q_wi s2 34 4 (nI T)) 34 5 (nI F), q_wi (q_wi s4 58 40 (nI T)) 58 41 (nI F), ?_, ?_, ?_⟩
    · rw [p9, a1, Option.bind_some, if_neg (show ¬ (1 : Int32) = 0 by decide)]
      show ((f_X4_write 34 (nI 0) 0 s1).bind _) = _
      rw [a2, Option.bind_some, a6 _ (by rw [r_row (by decide), r_row (by decide)])]
    · rw [p10, show f_X10_find 0 (nI c0) (nI to) (nI T) (nI F) 0 (q_wi (q_wi (q_wi s2 34 4 (nI T)) 34 5 (nI F)) 58 42 (-1)) = _ from b1, Option.bind_some]
      unfold dpN at *
      rw [if_neg (show ¬ nI (Kal (m.1 81) to T F c0) = 1000000000 from fun w => a4 ((nI_eq (b := 1000000000) (by omega) (by decide)).mp w)), show nI (Kal (m.1 81) to T F c0) / 10000 = nI (Kal (m.1 81) to T F c0 / 10000) from pk_div (d := 10000) (by omega) (by decide) (by decide)]
    · have e34 : (q_wi (q_wi s4 58 40 (nI T)) 58 41 (nI F)).1 34 = (q_wi (q_wi s2 34 4 (nI T)) 34 5 (nI F)).1 34 := by
        rw [r_row (by decide), r_row (by decide), b2 34 (by decide) (by decide) (by decide) (by decide), r_row (by decide)]
      have e35 : (q_wi (q_wi s4 58 40 (nI T)) 58 41 (nI F)).1 35 = s2.1 35 := by
        rw [r_row (by decide), r_row (by decide), b2 35 (by decide) (by decide) (by decide) (by decide), r_row (by decide), r_row (by decide), r_row (by decide)]
      have e36 : (q_wi (q_wi s4 58 40 (nI T)) 58 41 (nI F)).1 36 = m.1 36 := by
        rw [r_row (by decide), r_row (by decide), b2 36 (by decide) (by decide) (by decide) (by decide), r_row (by decide), r_row (by decide), r_row (by decide)]
        exact a7 36 (by decide) (by decide) (by decide) (by decide) (by decide)
      have e37 : (q_wi (q_wi s4 58 40 (nI T)) 58 41 (nI F)).1 37 = m.1 37 := by
        rw [r_row (by decide), r_row (by decide), b2 37 (by decide) (by decide) (by decide) (by decide), r_row (by decide), r_row (by decide), r_row (by decide)]
        exact a7 37 (by decide) (by decide) (by decide) (by decide) (by decide)
      have e82 : ∀ j, (q_wi (q_wi s4 58 40 (nI T)) 58 41 (nI F)).1 82 j = if 0 ≤ j ∧ j ≤ 0 + L then nI (rpP (frA (m.1 81)) (enA (m.1 81) to) (dgA (m.1 81)) T F c0 (j - 0)).2 else m.1 82 j := fun j => by
        rw [r_row (by decide), r_row (by decide), b3 j, r_row (by decide), r_row (by decide), a7 82 (by decide) (by decide) (by decide) (by decide) (by decide)]
      have e83 : ∀ j, (q_wi (q_wi s4 58 40 (nI T)) 58 41 (nI F)).1 83 j = if j = 0 then nI (0 + L) else m.1 83 j := fun j => by
        rw [r_row (by decide), r_row (by decide), b4 j, r_row (by decide), r_row (by decide), a7 83 (by decide) (by decide) (by decide) (by decide) (by decide)]
      have e84 : ∀ j, (q_wi (q_wi s4 58 40 (nI T)) 58 41 (nI F)).1 84 j = if j = 0 then 1 else m.1 84 j := fun j => by
        rw [r_row (by decide), r_row (by decide), b5 j, r_row (by decide), r_row (by decide), a7 84 (by decide) (by decide) (by decide) (by decide) (by decide)]
      have hpm := rp_fin (K := 0) hg (show T ≤ 40 by omega) a5 (p := s2.1 35) (fun n hn => by
        rw [a8 (0 + n), if_pos ⟨by omega, by omega⟩, show 0 + n - 0 = n by omega])
      have f2 : (q_wi (q_wi s2 34 4 (nI T)) 34 5 (nI F)).1 34 2 = nI (0 + L) := by rw [r_wi, if_neg (by omega), r_wi, if_neg (by omega)]; exact a10
      refine Inv_R (fun q j hq => ?_) hI ⟨.inr ⟨?_, ?_, L, by omega, ?_, ?_, ?_, fun i hi => ⟨?_, ?_⟩⟩, ?_, fun _ => ⟨T, F, by omega, by omega, ?_, ?_, ?_, ?_, fun d hd hd2 => ?_⟩⟩
      · have n1 : ¬ q = 34 := by rintro rfl; cases hq
        have n2 : ¬ q = 35 := by rintro rfl; cases hq
        have n3 : ¬ q = 82 := by rintro rfl; cases hq
        have n4 : ¬ q = 83 := by rintro rfl; cases hq
        have n5 : ¬ q = 84 := by rintro rfl; cases hq
        have n6 : ¬ q = 85 := by rintro rfl; cases hq
        have n7 : ¬ q = 89 := by rintro rfl; cases hq
        have n8 : ¬ q = 90 := by rintro rfl; cases hq
        have n9 : ¬ q = 91 := by rintro rfl; cases hq
        have t1 : ¬ (q = 58 ∧ j = 40) := by rintro ⟨rfl, rfl⟩; cases hq
        have t2 : ¬ (q = 58 ∧ j = 41) := by rintro ⟨rfl, rfl⟩; cases hq
        have t3 : ¬ (q = 58 ∧ j = 42) := by rintro ⟨rfl, rfl⟩; cases hq
        rw [r_wi, if_neg t2, r_wi, if_neg t1, b2 q n3 n4 n5 n6, r_wi, if_neg t3, r_row n1, r_row n1, a7 q n1 n2 n7 n8 n9]
      · rw [e34, r_wi, if_neg (by omega), r_wi, if_neg (by omega)]; exact a9
      · rw [e84, if_pos rfl]
      · rw [e34, f2, Nat.zero_add]
      · rw [e83, if_pos rfl, Nat.zero_add]
      · rw [e34, e35, r_wi, if_neg (by omega), r_wi, if_neg (by omega), a11]
        rw [Nat.zero_add] at hpm
        rw [hpm]
        show (0 : Int32) + _ = nI (0 + _)
        rw [Nat.zero_add, Int32.zero_add]
        rfl
      · rw [e35, e82, a8 i, show 41 * 0 + i = i by omega, if_pos ⟨by omega, by omega⟩, if_pos ⟨by omega, by omega⟩]
      · rw [e35, a8 i, if_pos ⟨by omega, by omega⟩]
        exact ⟨_, (a5.2.2.2 (i - 0) (by omega)).2.1, rfl⟩
      · rcases hIR.2.1 with ⟨z1, z2⟩ | ⟨z1, z2, d, z3, z4, z5, z6, z7⟩
        · exact .inl ⟨by rw [e36]; exact z1, by rw [e84, if_neg (by decide)]; exact z2⟩
        · refine .inr ⟨by rw [e36]; exact z1, by rw [e84, if_neg (by decide)]; exact z2, d, z3, by rw [e36]; exact z4, by rw [e83, if_neg (by decide)]; exact z5, by rw [e36, e37]; exact z6, fun i hi => ?_⟩
          rw [e37, e82, if_neg (by omega)]
          exact z7 i hi
      · rw [e34, r_wi, if_neg (by omega), r_wi, if_pos ⟨rfl, rfl⟩]
      · rw [r_wi, if_neg (by omega), r_wi, if_pos ⟨rfl, rfl⟩]
      · rw [e34, r_wi, if_pos ⟨rfl, rfl⟩]
      · rw [r_wi, if_pos ⟨rfl, rfl⟩]
      · rw [e34, f2, nI_eq (by omega) (by omega)] at hd
        rw [e35, ← hd, hpm]
        refine ⟨by omega, ?_⟩
        show 0 + _ ≤ F
        have := hK.1
        unfold Kal at this
        omega
