/-! PURE: about, cell -/
theorem r_planL {y : Int64} {m : q_Mm} : f_X9_isPlan y m = 0 ↔ ¬ (0 ≤ y.toInt ∧ y.toInt ≤ 3) := by
  unfold f_X9_isPlan
  have z0 : (0 : Int64).toInt = 0 := rfl
  have z4 : (4 : Int64).toInt = 4 := rfl
  by_cases h1 : y < 0
  · rw [if_pos h1]; rw [r_ltL] at h1; simp; omega
  · rw [if_neg h1]
    by_cases h2 : 4 ≤ y
    · rw [if_pos h2]; rw [r_ltL] at h1; rw [r_leL] at h2; simp; omega
    · rw [if_neg h2]; rw [r_ltL] at h1; rw [r_leL] at h2; simp; omega
theorem land_l {m : q_Mm} (hD : ID m) (x : Int32) : ∀ (n i : Nat), 144 - i ≤ n → i ≤ 144 → ∀ (fuel : Nat) (acc : Int32), n < fuel → ∃ r, l_X9_landCells_4 fuel acc (nI i) m = some r ∧ l_X10_about_28 fuel x acc (nI i) m = some r := by
  intro n
  induction n with
  | zero =>
    intro i h1 h2 fuel acc h3
    obtain ⟨f, rfl⟩ : ∃ f, fuel = f + 1 := ⟨fuel - 1, by omega⟩
    refine ⟨acc, ?_, ?_⟩
    · unfold l_X9_landCells_4
      rw [if_pos (show (144 : Int32) ≤ nI i from nI_le (a := 144) (by omega) (by omega))]
    · unfold l_X10_about_28
      rw [if_pos (show (144 : Int32) ≤ nI i from nI_le (a := 144) (by omega) (by omega))]
  | succ n ih =>
    intro i h1 h2 fuel acc h3
    obtain ⟨f, rfl⟩ : ∃ f, fuel = f + 1 := ⟨fuel - 1, by omega⟩
    by_cases hi : i = 144
    · subst hi
      refine ⟨acc, ?_, ?_⟩
      · unfold l_X9_landCells_4
        rw [if_pos (by decide)]
      · unfold l_X10_about_28
        rw [if_pos (by decide)]
    · obtain ⟨d1, d2, d3⟩ := hD i (by omega)
      unfold l_X9_landCells_4 l_X10_about_28
      rw [if_neg (show ¬ (144 : Int32) ≤ nI i from nI_ge (b := 144) (by omega) (by omega)), if_neg (show ¬ (144 : Int32) ≤ nI i from nI_ge (b := 144) (by omega) (by omega)), r_in (show i < 144 by omega) (by decide), r_cl (by omega), nI_1, d1]
      simp only [if_true]
      by_cases hm : m.1 81 i = -1
      · rw [if_pos hm, if_neg (by rw [hm]; decide)]
        exact ih (i + 1) (by omega) (by omega) f (acc + 1) (by omega)
      · rw [if_neg hm, if_pos (by
          rw [r_le]
          have : ¬ (m.1 81 i).toInt = -1 := fun e => hm (r_eq.mpr e)
          show (0 : Int) ≤ _
          omega), show acc + 0 = acc from Int32.add_zero acc]
        exact ih (i + 1) (by omega) (by omega) f acc (by omega)
theorem ok_about : q_OK_about Inv := by
  intro x m hI
  obtain ⟨r, l1, l2⟩ := land_l hI.2.2.2.2.2.2.2.1 x 144 0 (by omega) (by omega) 7000 0 (by omega)
  have l1' : l_X9_landCells_4 7000 0 0 m = some r := l1
  have l2' : l_X10_about_28 7000 x 0 0 m = some r := l2
  by_cases g : 10 ≤ x.toInt ∧ x.toInt ≤ 13
  · obtain ⟨p, hp, hx⟩ : ∃ p : Nat, p < 4 ∧ x = nI (10 + p) := ⟨(x.toInt - 10).toNat, by omega, by rw [r_eq, r_nI (by omega)]; omega⟩
    subst hx
    obtain ⟨c, hc, e1, e2, -⟩ := hI.1 p hp
    have hs : nI (10 + p) - 10 = nI p := by
      rw [show (10 : Int32) = nI 10 from rfl, pk_sub (by omega), show 10 + p - 10 = p by omega]
    have hne : ∀ k : Nat, k < 10 → ¬ nI (10 + p) = nI k := fun k hk e => by
      have := (nI_eq (by omega) (by omega)).mp e
      omega
    refine ⟨nI c, ?_, ?_, hI⟩
    · unfold f_X9_about
      rw [if_neg (show ¬ nI (10 + p) = 0 from hne 0 (by omega)), if_neg (show ¬ nI (10 + p) = 1 from hne 1 (by omega)), if_neg (show ¬ nI (10 + p) = 2 from hne 2 (by omega)), if_neg (show ¬ nI (10 + p) = 3 from hne 3 (by omega)), if_neg (show ¬ nI (10 + p) = 4 from hne 4 (by omega)), if_neg (show ¬ nI (10 + p) = 5 from hne 5 (by omega)), if_neg (show ¬ nI (10 + p) = 6 from hne 6 (by omega)), if_neg (show ¬ nI (10 + p) = 7 from hne 7 (by omega))]
      rw [if_neg (fun e => r_planL.mp e (by
        have : ((nI (10 + p)).toInt64 - 10).toInt = (p : Int) := by
          rw [nI_l (by omega), show (10 : Int64) = lN 10 from rfl, lN_sub (by omega), lN_toInt (by omega)]
          omega
        rw [this]
        omega)), hs, if_pos (r_in hp (by decide)), r_cl (by omega), e1]
    · unfold f_X10_about
      rw [if_neg (show ¬ f_X10_in (nI (10 + p)).toInt64 10 13 m = 0 from fun e => r_inn.mp e g), hs, if_pos (r_in hp (by decide)), r_cl (by omega), e2]
  · have hb : f_X10_in x.toInt64 10 13 m = 0 := r_inn.mpr g
    have h9 : f_X9_isPlan (x.toInt64 - 10) m = 0 := by
      refine r_planL.mpr (fun e => g ?_)
      have a1 := r_lo x
      have a2 := r_hi x
      have : (x.toInt64 - 10).toInt = x.toInt - 10 := by
        rw [Int64.toInt_sub, r_64, show (10 : Int64).toInt = 10 from rfl, Int.bmod_eq_of_le (by omega) (by omega)]
      omega
    unfold f_X9_about f_X10_about
    unfold f_X9_landCells
    rw [if_pos hb, l1', l2', if_pos h9]
    dsimp only [Option.bind_some]
    obtain ⟨i1, i2, i3, i4, i5, i6, i7, i8, i9, i10⟩ := id hI
    obtain ⟨p, hp, a1, a2⟩ := i2
    obtain ⟨c, k, -, -, b1, b2, b3, b4, -⟩ := i4
    obtain ⟨o, -, c1, c2, -⟩ := i7
    obtain ⟨t, -, d1, d2, -⟩ := i9
    rw [a1, a2, b1, b2, b3, b4, i3.1, i3.2.1, c1, c2, d1, d2]
    repeat' split
    all_goals exact ⟨_, rfl, rfl, hI⟩
theorem pMoves_congr {f g : Nat → Int32} : ∀ d, (∀ i, i ≤ d → f i = g i) → pMoves f d = pMoves g d := by
  intro d
  induction d with
  | zero => intro _; rfl
  | succ d ih =>
    intro h
    unfold pMoves
    rw [ih (fun i hi => h i (by omega)), h (d + 1) (by omega), h d (by omega)]
theorem pMoves_le (f : Nat → Int32) : ∀ d, pMoves f d ≤ d := by
  intro d
  induction d with
  | zero => exact Nat.le_refl _
  | succ d ih => unfold pMoves; split <;> omega
theorem fuel10_l {m : q_Mm} {w d : Nat} (hw : w < 2) (hd : d ≤ 40) : ∀ (n i : Nat), d + 1 - i ≤ n → 1 ≤ i → i ≤ d + 1 → ∀ (fuel : Nat), n < fuel → l_X10_fuelTill_5 fuel (nI w) (nI d) (nI (pMoves (fun j => m.1 82 (41 * w + j)) (i - 1))) (nI i) m = some (nI (pMoves (fun j => m.1 82 (41 * w + j)) d)) := by
  intro n
  induction n with
  | zero =>
    intro i h1 h2 h3 fuel h4
    obtain ⟨f, rfl⟩ : ∃ f, fuel = f + 1 := ⟨fuel - 1, by omega⟩
    unfold l_X10_fuelTill_5
    rw [if_pos (nI_lt (by omega) (by omega)), show i - 1 = d by omega]
  | succ n ih =>
    intro i h1 h2 h3 fuel h4
    obtain ⟨f, rfl⟩ : ∃ f, fuel = f + 1 := ⟨fuel - 1, by omega⟩
    unfold l_X10_fuelTill_5
    by_cases hi : i = d + 1
    · rw [if_pos (nI_lt (by omega) (by omega)), show i - 1 = d by omega]
    · have e0 : 41 * nI w + nI i = nI (41 * w + i) := by rw [show (41 : Int32) = nI 41 from rfl, pk_mul, nI_add]
      obtain ⟨j, rfl⟩ : ∃ j, i = j + 1 := ⟨i - 1, by omega⟩
      have e1 : nI (41 * w + (j + 1)) - 1 = nI (41 * w + j) := nI_pred _
      rw [if_neg (nI_nlt (by omega) (by omega)), e0, e1, r_in (show 41 * w + (j + 1) < 82 by omega) (by decide), r_in (show 41 * w + j < 82 by omega) (by decide), r_cl (by omega), r_cl (by omega), nI_1, nI_1]
      simp only [if_true, Nat.add_sub_cancel]
      have go := ih (j + 2) (by omega) (by omega) (by omega) f (by omega)
      rw [show j + 2 - 1 = j + 1 by omega] at go
      have pe : pMoves (fun j => m.1 82 (41 * w + j)) (j + 1) = pMoves (fun j => m.1 82 (41 * w + j)) j + (if m.1 82 (41 * w + (j + 1)) = m.1 82 (41 * w + j) then 0 else 1) := rfl
      rw [pe] at go
      by_cases hm : m.1 82 (41 * w + (j + 1)) = m.1 82 (41 * w + j)
      · rw [if_pos hm] at go ⊢
        rw [show nI (pMoves (fun j => m.1 82 (41 * w + j)) j) + 0 = nI (pMoves (fun j => m.1 82 (41 * w + j)) j) from Int32.add_zero _]
        exact go
      · rw [if_neg hm] at go ⊢
        exact go
theorem fuel10 {m : q_Mm} {w d : Nat} (hw : w < 2) (hd : d ≤ 40) : f_X10_fuelTill (nI w) (nI d) m = some (nI (pMoves (fun j => m.1 82 (41 * w + j)) d)) := by
  unfold f_X10_fuelTill
  rw [show l_X10_fuelTill_5 7000 (nI w) (nI d) 0 1 m = some (nI (pMoves (fun j => m.1 82 (41 * w + j)) d)) from fuel10_l hw hd (d + 1) 1 (by omega) (by omega) (by omega) 7000 (by omega)]
  rfl
theorem cellOf10 {m : q_Mm} {w d i : Nat} (hw : w < 2) (hd : d ≤ 40) (e : m.1 83 w = nI d) (hi : i < 1000) : f_X10_cellOf (nI w) (nI i) m = some (m.1 82 (41 * w + (if i ≤ d then i else d))) := by
  have e0 : ∀ j, 41 * nI w + nI j = nI (41 * w + j) := fun j => by rw [show (41 : Int32) = nI 41 from rfl, pk_mul, nI_add]
  unfold f_X10_cellOf
  rw [r_in hw (by decide), r_cl (by omega), e, e0, e0, r_in (show 41 * w + d < 82 by omega) (by decide), r_cl (show 41 * w + d < 2 ^ 31 by omega)]
  simp only [if_true]
  by_cases h : i ≤ d
  · rw [if_pos (nI_le h (by omega)), if_pos h, r_in (show 41 * w + i < 82 by omega) (by decide), r_cl (show 41 * w + i < 2 ^ 31 by omega), if_pos rfl]
  · rw [if_neg (nI_ge (by omega) (by omega)), if_neg h]
theorem cellOn9 {m : q_Mm} {v d i : Nat} (hd : d ≤ 40) (e : m.1 v 2 = nI d) (hi : i < 1000) : f_X8_cellOn v (nI i) m = some (m.1 (v + 1) (if i ≤ d then i else d)) := by
  unfold f_X8_cellOn
  rw [e, r_in (show d < 41 by omega) (by decide), r_cl (show d < 2 ^ 31 by omega)]
  simp only [if_true]
  by_cases h : d ≤ i
  · rw [if_pos (nI_le h (by omega))]
    by_cases h2 : i ≤ d
    · rw [if_pos h2, show i = d by omega]
    · rw [if_neg h2]
  · rw [if_neg (nI_ge (by omega) (by omega)), if_pos (show i ≤ d by omega), r_in (show i < 41 by omega) (by decide), r_cl (show i < 2 ^ 31 by omega), if_pos rfl]
theorem cell_one {m : q_Mm} {w v : Nat} (hw : w < 2) (h : IR1 m w v) {x2 : Int32} (g : -2 ≤ x2.toInt ∧ x2.toInt ≤ 40) : ∃ r, (if m.1 v 0 = 0 then some (-6) else if x2 = (-1) then some (m.1 v 2) else if x2 = (-2) then some (m.1 v 3) else (f_X8_cellOn v x2 m).bind fun r => some r) = some r ∧ (if m.1 84 w = 0 then some (-6) else if x2 = (-1) then some (m.1 83 w) else if x2 = (-2) then (f_X10_fuelTill (nI w) (m.1 83 w) m).bind fun r => some r else (f_X10_cellOf (nI w) x2 m).bind fun r => some r) = some r := by
  rcases h with ⟨h1, h2⟩ | ⟨h1, h2, d, hd, e1, e2, e3, hr⟩
  · exact ⟨-6, by rw [if_pos h1], by rw [if_pos h2]⟩
  · rw [h1, h2, if_neg (show ¬ (1 : Int32) = 0 by decide), if_neg (show ¬ (1 : Int32) = 0 by decide), e1, e2, e3, fuel10 hw hd]
    by_cases z1 : x2 = -1
    · exact ⟨nI d, by rw [if_pos z1], by rw [if_pos z1]⟩
    · rw [if_neg z1, if_neg z1]
      by_cases z2 : x2 = -2
      · refine ⟨_, by rw [if_pos z2], ?_⟩
        rw [if_pos z2]
        dsimp only [Option.bind_some]
        rw [pMoves_congr d (fun i hi => ((hr i hi).1).symm)]
      · rw [if_neg z2, if_neg z2]
        have a1 : ¬ x2.toInt = -1 := fun e => z1 (r_eq.mpr e)
        have a2 : ¬ x2.toInt = -2 := fun e => z2 (r_eq.mpr e)
        obtain ⟨i, hi, rfl⟩ := r_of (x := x2) (n := 41) (by omega) (by omega) (by decide)
        rw [cellOn9 hd e1 (by omega), cellOf10 hw hd e2 (by omega)]
        refine ⟨_, rfl, ?_⟩
        dsimp only [Option.bind_some]
        by_cases hid : i ≤ d
        · rw [if_pos hid, (hr i hid).1]
        · rw [if_neg hid, (hr d (Nat.le_refl _)).1]
theorem ok_cell : q_OK_cell Inv := by
  intro x1 x2 m hI
  have hR := hI.2.2.2.2.2.2.2.2.2
  by_cases g1 : 0 ≤ x1.toInt ∧ x1.toInt ≤ 1
  · by_cases g2 : -2 ≤ x2.toInt ∧ x2.toInt ≤ 40
    · obtain ⟨w, hw, rfl⟩ := r_of g1.1 (n := 2) (by omega) (by decide)
      have u10 : f_X10_cell (nI w) x2 m = (if m.1 84 w = 0 then some (-6) else if x2 = (-1) then some (m.1 83 w) else if x2 = (-2) then (f_X10_fuelTill (nI w) (m.1 83 w) m).bind fun r => some r else (f_X10_cellOf (nI w) x2 m).bind fun r => some r) := by
        unfold f_X10_cell
        rw [if_neg (show ¬ f_X10_in (nI w).toInt64 0 1 m = 0 from fun e => r_inn.mp e g1), if_neg (show ¬ f_X10_in x2.toInt64 (-2) 40 m = 0 from fun e => r_inn.mp e g2), r_in hw (by decide), r_cl (by omega)]
        simp only [if_true]
      match w, hw with
      | 0, _ =>
        obtain ⟨r, h1, h2⟩ := cell_one (w := 0) (v := 34) (by decide) hR.1 g2
        refine ⟨r, ?_, by rw [u10]; exact h2, hI⟩
        unfold f_X9_cell
        rw [if_neg (show ¬ f_X9_within (nI 0) 0 1 m = 0 from fun e => r_within.mp e g1), if_neg (show ¬ f_X9_within x2 (-2) 40 m = 0 from fun e => r_within.mp e g2), if_pos (by decide)]
        exact h1
      | 1, _ =>
        obtain ⟨r, h1, h2⟩ := cell_one (w := 1) (v := 36) (by decide) hR.2.1 g2
        refine ⟨r, ?_, by rw [u10]; exact h2, hI⟩
        unfold f_X9_cell
        rw [if_neg (show ¬ f_X9_within (nI 1) 0 1 m = 0 from fun e => r_within.mp e g1), if_neg (show ¬ f_X9_within x2 (-2) 40 m = 0 from fun e => r_within.mp e g2), if_neg (by decide)]
        exact h1
    · refine ⟨-2, ?_, ?_, hI⟩
      · unfold f_X9_cell
        rw [if_neg (show ¬ f_X9_within x1 0 1 m = 0 from fun e => r_within.mp e g1), if_pos (show f_X9_within x2 (-2) 40 m = 0 from r_within.mpr g2)]
      · unfold f_X10_cell
        rw [if_neg (show ¬ f_X10_in x1.toInt64 0 1 m = 0 from fun e => r_inn.mp e g1), if_pos (show f_X10_in x2.toInt64 (-2) 40 m = 0 from r_inn.mpr g2)]
  · refine ⟨-2, ?_, ?_, hI⟩
    · unfold f_X9_cell
      rw [if_pos (show f_X9_within x1 0 1 m = 0 from r_within.mpr g1)]
    · unfold f_X10_cell
      rw [if_pos (show f_X10_in x1.toInt64 0 1 m = 0 from r_inn.mpr g1)]
