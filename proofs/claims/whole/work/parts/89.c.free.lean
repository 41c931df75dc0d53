/-! PURE: routes: which cells are free on which day -/
theorem rem12 {r : Nat} (h : r < 2 ^ 31) : q_rm (nI r) 12 = nI (r % 12) := pk_rem (d := 12) h (by decide) (by decide)
theorem div12 {r : Nat} (h : r < 2 ^ 31) : nI r / 12 = nI (r / 12) := pk_div (d := 12) h (by decide) (by decide)
def caA (I : Nat → Nat → Int32) (k : Nat) : Nat := (I 35 (if k ≤ (I 34 2).toNatClampNeg then k else (I 34 2).toNatClampNeg)).toNatClampNeg
def beyB (e : Int) (c a : Nat) : Bool := decide (e < ((c % 12 : Nat) : Int) - ((a % 12 : Nat) : Int) ∨ ((c % 12 : Nat) : Int) - ((a % 12 : Nat) : Int) < -e ∨ e < ((c / 12 : Nat) : Int) - ((a / 12 : Nat) : Int) ∨ ((c / 12 : Nat) : Int) - ((a / 12 : Nat) : Int) < -e)
def aptB (I : Nat → Nat → Int32) (e : Int) (c day : Nat) : Bool := decide (e < 0) || ((decide (day = 0) || beyB e c (caA I (day - 1))) && (beyB e c (caA I day) && beyB e c (caA I (day + 1))))
def fdB (I : Nat → Nat → Int32) (e : Int) (c day : Nat) : Bool := decide (0 ≤ (I 81 c).toInt) && aptB I e c day
def frD (I : Nat → Nat → Int32) (e : Int) (T : Nat) : Nat → Nat → Bool := fun c d => fdB I e c (T - d)
/-- on each day from day to 41 -/
def alN (p : Nat → Bool) : Nat → Nat → Bool
  | 0, _ => true
  | n + 1, day => p day && alN p n (day + 1)
def alB (p : Nat → Bool) (day : Nat) : Bool := alN p (42 - day) day
theorem alN_iff {p : Nat → Bool} : ∀ n day, day + n = 42 → (alN p n day = true ↔ ∀ k, k < 42 → day ≤ k → p k = true) := by
  intro n
  induction n with
  | zero => intro day h; exact ⟨fun _ k k1 k2 => by omega, fun _ => rfl⟩
  | succ n ih =>
    intro day h
    unfold alN
    rw [Bool.and_eq_true, ih (day + 1) (by omega)]
    constructor
    · intro ⟨w1, w2⟩ k k1 k2
      by_cases e : k = day
      · rw [e]; exact w1
      · exact w2 k k1 (by omega)
    · intro w
      exact ⟨w day (by omega) (Nat.le_refl _), fun k k1 k2 => w k k1 (by omega)⟩
theorem alB_iff {p : Nat → Bool} {day : Nat} (h : day ≤ 42) : alB p day = true ↔ ∀ k, k < 42 → day ≤ k → p k = true := alN_iff _ _ (by omega)
theorem alB_s {p : Nat → Bool} {day : Nat} (h : day < 42) : alB p day = (p day && alB p (day + 1)) := by
  unfold alB
  rw [show 42 - day = (42 - (day + 1)) + 1 by omega]
  rfl
theorem alB_e {p : Nat → Bool} {day : Nat} (h : 42 ≤ day) : alB p day = true := by
  unfold alB
  rw [show 42 - day = 0 by omega]
  rfl
def enD (I : Nat → Nat → Int32) (e : Int) (T to : Nat) : Nat → Nat → Bool := fun c d => decide (c = to) && alB (fdB I e c) (T - d)
def dgD (I : Nat → Nat → Int32) (c : Nat) : Nat := if c < 144 then (I 81 c).toInt.toNat else 0
/-- ROUTE A stands -/
def PA (I : Nat → Nat → Int32) : Prop := ∃ d : Nat, d ≤ 40 ∧ I 34 2 = nI d ∧ I 83 0 = nI d ∧ ∀ i, i ≤ d → I 35 i = I 82 i ∧ ∃ q : Nat, q < 144 ∧ I 35 i = nI q
def Ge (I : Nat → Nat → Int32) (e : Int32) : Prop := e = -1 ∨ (0 ≤ e.toInt ∧ e.toInt ≤ 5 ∧ PA I)
theorem caA_in {I : Nat → Nat → Int32} (h : PA I) (k : Nat) : caA I k < 144 ∧ ∃ d : Nat, d ≤ 40 ∧ I 34 2 = nI d ∧ I 83 0 = nI d ∧ I 35 (if k ≤ d then k else d) = nI (caA I k) ∧ I 82 (if k ≤ d then k else d) = nI (caA I k) := by
  obtain ⟨d, hd, e1, e2, h⟩ := h
  obtain ⟨h1, q, hq, e⟩ := h (if k ≤ d then k else d) (by split <;> omega)
  have : caA I k = q := by
    unfold caA
    rw [e1, r_cl (by omega), e, r_cl (by omega)]
  rw [this]
  exact ⟨hq, d, hd, e1, e2, e, by rw [← h1, e]⟩
theorem cOn {s : q_Mm} (h : PA s.1) {k : Nat} (hk : k < 1000) : f_X8_cellOn 34 (nI k) s = some (nI (caA s.1 k)) := by
  obtain ⟨_, d, hd, e1, e2, e3, e4⟩ := caA_in h k
  rw [cellOn9 hd e1 hk, e3]
theorem cOf {s : q_Mm} (h : PA s.1) {k : Nat} (hk : k < 1000) : f_X10_cellOf 0 (nI k) s = some (nI (caA s.1 k)) := by
  obtain ⟨_, d, hd, e1, e2, e3, e4⟩ := caA_in h k
  have := cellOf10 (m := s) (w := 0) (by decide) hd e2 hk
  rw [Nat.mul_zero, Nat.zero_add, e4] at this
  exact this
theorem bey9 {s : q_Mm} {c a : Nat} (he : 0 ≤ (s.1 89 8).toInt ∧ (s.1 89 8).toInt ≤ 5) (hc : c < 144) (ha : a < 144) : f_X4_isBeyondGap (nI c) (nI a) s = if beyB (s.1 89 8).toInt c a = true then 1 else 0 := by
  have d1 : (nI (c % 12) - nI (a % 12)).toInt = ((c % 12 : Nat) : Int) - ((a % 12 : Nat) : Int) := by
    rw [sub_i, r_nI (by omega), r_nI (by omega)] <;> rw [r_nI (by omega), r_nI (by omega)] <;> omega
  have d2 : (nI (c / 12) - nI (a / 12)).toInt = ((c / 12 : Nat) : Int) - ((a / 12 : Nat) : Int) := by
    rw [sub_i, r_nI (by omega), r_nI (by omega)] <;> rw [r_nI (by omega), r_nI (by omega)] <;> omega
  have d3 : (-(s.1 89 8)).toInt = -(s.1 89 8).toInt := by
    rw [Int32.toInt_neg, Int.bmod_eq_of_le (by omega) (by omega)]
  unfold f_X4_isBeyondGap beyB
  rw [rem12 (by omega), rem12 (by omega), div12 (by omega), div12 (by omega)]
  simp only [r_lt, r_le, d1, d2, d3, decide_eq_true_eq]
  by_cases h1 : (s.1 89 8).toInt < ((c % 12 : Nat) : Int) - ((a % 12 : Nat) : Int)
  · rw [if_pos h1, if_pos (.inl h1)]
  · rw [if_neg h1]
    by_cases h2 : ((c % 12 : Nat) : Int) - ((a % 12 : Nat) : Int) < -(s.1 89 8).toInt
    · rw [if_pos h2, if_pos (.inr (.inl h2))]
    · rw [if_neg h2]
      by_cases h3 : (s.1 89 8).toInt < ((c / 12 : Nat) : Int) - ((a / 12 : Nat) : Int)
      · rw [if_pos h3, if_pos (.inr (.inr (.inl h3)))]
      · rw [if_neg h3]
        by_cases h4 : -(s.1 89 8).toInt ≤ ((c / 12 : Nat) : Int) - ((a / 12 : Nat) : Int)
        · rw [if_pos h4, if_neg (by omega)]
        · rw [if_neg h4, if_pos (.inr (.inr (.inr (by omega))))]
theorem apt9 {s : q_Mm} {c day : Nat} (he : Ge s.1 (s.1 89 8)) (hc : c < 144) (hd : day < 100) : f_X4_isApart (nI c) (nI day) s = some (if aptB s.1 (s.1 89 8).toInt c day = true then 1 else 0) := by
  unfold f_X4_isApart aptB
  by_cases h0 : s.1 89 8 = -1
  · rw [if_pos h0, h0]
    rfl
  · rw [if_neg h0]
    rcases he with he | ⟨h1, h2, hP⟩
    · exact absurd he h0
    · rw [show decide ((s.1 89 8).toInt < 0) = false from decide_eq_false (by omega), Bool.false_or]
      have B : ∀ k, f_X4_isBeyondGap (nI c) (nI (caA s.1 k)) s = if beyB (s.1 89 8).toInt c (caA s.1 k) = true then 1 else 0 := fun k => bey9 ⟨h1, h2⟩ hc (caA_in hP k).1
      have Z : ∀ b : Bool, ((if b = true then (1 : Int32) else 0) = 0) = (b = false) := fun b => by cases b <;> decide
      by_cases hd0 : day = 0
      · subst hd0
        rw [if_pos (show nI 0 < 1 by decide), cOn hP (by omega), Option.bind_some, nI_1, cOn hP (by omega), Option.bind_some, B, B]
        simp only [Z]
        cases beyB (s.1 89 8).toInt c (caA s.1 0) <;> cases beyB (s.1 89 8).toInt c (caA s.1 (0 + 1)) <;> rfl
      · rw [if_neg (show ¬ nI day < 1 by rw [r_lt, r_nI (by omega)]; show ¬ (day : Int) < 1; omega), nI_m1 (by omega), cOn hP (by omega), Option.bind_some, cOn hP (by omega), Option.bind_some, nI_1, cOn hP (by omega), Option.bind_some, B, B, B, show decide (day = 0) = false from decide_eq_false hd0, Bool.false_or]
        simp only [Z]
        cases beyB (s.1 89 8).toInt c (caA s.1 (day - 1)) <;> cases beyB (s.1 89 8).toInt c (caA s.1 day) <;> cases beyB (s.1 89 8).toInt c (caA s.1 (day + 1)) <;> rfl
theorem size10 {x : Int32} {m : q_Mm} (h : -1000 ≤ x.toInt ∧ x.toInt ≤ 1000) : (f_X10_size x m).toInt = max x.toInt (-x.toInt) := by
  unfold f_X10_size
  have z : (0 : Int32).toInt = 0 := rfl
  by_cases h0 : 0 ≤ x
  · rw [if_pos h0]; rw [r_le, z] at h0; omega
  · rw [if_neg h0]; rw [r_le, z] at h0; rw [Int32.toInt_neg, Int.bmod_eq_of_le (by omega) (by omega)]; omega
theorem near10r {s : q_Mm} {c k : Nat} (h1 : 0 ≤ (s.1 58 42).toInt ∧ (s.1 58 42).toInt ≤ 5) (hP : PA s.1) (hc : c < 144) (hk : k < 1000) : f_X10_isNear (nI c) (nI k) s = some (if beyB (s.1 58 42).toInt c (caA s.1 k) = true then 0 else 1) := by
  have ha := (caA_in hP k).1
  generalize hq : caA s.1 k = a at *
  have d1 : (nI (c % 12) - nI (a % 12)).toInt = ((c % 12 : Nat) : Int) - ((a % 12 : Nat) : Int) := by
    rw [sub_i, r_nI (by omega), r_nI (by omega)] <;> rw [r_nI (by omega), r_nI (by omega)] <;> omega
  have d2 : (nI (c / 12) - nI (a / 12)).toInt = ((c / 12 : Nat) : Int) - ((a / 12 : Nat) : Int) := by
    rw [sub_i, r_nI (by omega), r_nI (by omega)] <;> rw [r_nI (by omega), r_nI (by omega)] <;> omega
  unfold f_X10_isNear
  rw [if_pos (nI_pos' (by omega)), cOf hP hk, Option.bind_some, hq, rem12 (by omega), rem12 (by omega), div12 (by omega), div12 (by omega)]
  simp only [r_lt]
  rw [size10 (by rw [d1]; omega), size10 (by rw [d2]; omega), d1, d2]
  unfold beyB
  simp only [decide_eq_true_eq]
  by_cases h3 : (s.1 58 42).toInt < max (((c % 12 : Nat) : Int) - ((a % 12 : Nat) : Int)) (-(((c % 12 : Nat) : Int) - ((a % 12 : Nat) : Int)))
  · rw [if_pos h3, if_pos (by omega)]
  · rw [if_neg h3]
    by_cases h4 : (s.1 58 42).toInt < max (((c / 12 : Nat) : Int) - ((a / 12 : Nat) : Int)) (-(((c / 12 : Nat) : Int) - ((a / 12 : Nat) : Int)))
    · rw [if_pos h4, if_pos (by omega)]
    · rw [if_neg h4, if_neg (by omega)]
theorem free10 {s : q_Mm} {c day : Nat} (he : Ge s.1 (s.1 58 42)) (hc : c < 144) (hd : day < 100) : f_X10_isFree (nI c) (nI day) s = some (if fdB s.1 (s.1 58 42).toInt c day = true then 1 else 0) := by
  have z : (0 : Int32).toInt = 0 := rfl
  unfold f_X10_isFree fdB
  rw [if_pos (r_in hc (by decide)), r_cl (by omega)]
  by_cases hl : 0 ≤ s.1 81 c
  · rw [if_pos hl]
    rw [r_le, z] at hl
    rw [show decide (0 ≤ (s.1 81 c).toInt) = true from decide_eq_true hl, Bool.true_and]
    unfold aptB
    rcases he with he | ⟨h1, h2, hP⟩
    · rw [he, if_pos (by decide)]
      rfl
    · rw [if_neg (show ¬ s.1 58 42 < 0 by rw [r_lt, z]; omega), show decide ((s.1 58 42).toInt < 0) = false from decide_eq_false (by omega), Bool.false_or]
      have B : ∀ k, k < 1000 → f_X10_isNear (nI c) (nI k) s = some (if beyB (s.1 58 42).toInt c (caA s.1 k) = true then 0 else 1) := fun k hk => near10r ⟨h1, h2⟩ hP hc hk
      have Z : ∀ b : Bool, ((if b = true then (0 : Int32) else 1) = 0) = (b = true) := fun b => by cases b <;> decide
      by_cases hd0 : day = 0
      · subst hd0
        have hm : f_X10_isNear (nI c) (nI 0 - 1) s = some 0 := by
          unfold f_X10_isNear
          rw [if_neg (by decide)]
        rw [hm, Option.bind_some, if_pos rfl, B 0 (by omega), Option.bind_some, nI_1, B (0 + 1) (by omega), Option.bind_some]
        simp only [Z]
        cases beyB (s.1 58 42).toInt c (caA s.1 0) <;> cases beyB (s.1 58 42).toInt c (caA s.1 (0 + 1)) <;> rfl
      · rw [nI_m1 (by omega), B (day - 1) (by omega), Option.bind_some, B day (by omega), Option.bind_some, nI_1, B (day + 1) (by omega), Option.bind_some, show decide (day = 0) = false from decide_eq_false hd0, Bool.false_or]
        simp only [Z]
        cases beyB (s.1 58 42).toInt c (caA s.1 (day - 1)) <;> cases beyB (s.1 58 42).toInt c (caA s.1 day) <;> cases beyB (s.1 58 42).toInt c (caA s.1 (day + 1)) <;> rfl
  · rw [if_neg hl]
    rw [r_le, z] at hl
    rw [show decide (0 ≤ (s.1 81 c).toInt) = false from decide_eq_false hl]
    rfl
theorem stay_l {s : q_Mm} {c : Nat} (he : Ge s.1 (s.1 58 42)) (hc : c < 144) : ∀ (n day fuel : Nat) (b : Bool), 42 - day ≤ n → day ≤ 42 → n < fuel → l_X10_canStay_10 fuel (nI c) (if b = true then 1 else 0) (nI day) s = some (if (b && alB (fdB s.1 (s.1 58 42).toInt c) day) = true then 1 else 0) := by
  intro n
  induction n with
  | zero =>
    intro day fuel b h1 h2 h3
    obtain ⟨f, rfl⟩ : ∃ f, fuel = f + 1 := ⟨fuel - 1, by omega⟩
    unfold l_X10_canStay_10
    rw [if_pos (show (41 : Int32) < nI day by rw [r_lt, r_nI (by omega)]; show (41 : Int) < _; omega), alB_e (by omega), Bool.and_true]
  | succ n ih =>
    intro day fuel b h1 h2 h3
    obtain ⟨f, rfl⟩ : ∃ f, fuel = f + 1 := ⟨fuel - 1, by omega⟩
    unfold l_X10_canStay_10
    by_cases hd : day = 42
    · rw [if_pos (show (41 : Int32) < nI day by rw [r_lt, r_nI (by omega)]; show (41 : Int) < _; omega), alB_e (by omega), Bool.and_true]
    · rw [if_neg (show ¬ (41 : Int32) < nI day by rw [r_lt, r_nI (by omega)]; show ¬ (41 : Int) < _; omega)]
      cases b with
      | false => rfl
      | true => rw [if_neg (by decide), free10 he hc (by omega), Option.bind_some, nI_1, ih (day + 1) f _ (by omega) (by omega) (by omega), Bool.true_and, alB_s (day := day) (by omega)]
theorem stay10 {s : q_Mm} {c day : Nat} (he : Ge s.1 (s.1 58 42)) (hc : c < 144) (hd : day ≤ 41) : f_X10_canStay (nI c) (nI day) s = some (if alB (fdB s.1 (s.1 58 42).toInt c) day = true then 1 else 0) := by
  unfold f_X10_canStay
  rw [free10 he hc (by omega), Option.bind_some, stay_l he hc 42 day 7000 _ (by omega) (by omega) (by omega), Option.bind_some]
  have e : (fdB s.1 (s.1 58 42).toInt c day && alB (fdB s.1 (s.1 58 42).toInt c) day) = alB (fdB s.1 (s.1 58 42).toInt c) day := by
    rw [alB_s (by omega), ← Bool.and_assoc, Bool.and_self]
  rw [e]
  cases alB (fdB s.1 (s.1 58 42).toInt c) day <;> rfl
/-- the day from which the end is safe -/
theorem safe_l {I : Nat → Nat → Int32} {e : Int32} {to : Nat} {y3 y4 : Int32} (ht : to < 144) (h5 : I 89 5 = nI to) (h8 : I 89 8 = e) (he : Ge I e) : ∀ (j fuel : Nat) (s : q_Mm), j ≤ 42 → j < fuel → s.1 = (fun q i => if q = 89 ∧ i = 9 then nI j else I q i) → (∀ k, j ≤ k → k < 42 → aptB I e.toInt to k = true) → ∃ s' S, l_X4_findApart_26 fuel y3 y4 (nI j + (-1)) s = some s' ∧ s'.2 = s.2 ∧ S ≤ 42 ∧ s'.1 = (fun q i => if q = 89 ∧ i = 9 then nI S else I q i) ∧ ∀ day, day < 42 → (S ≤ day ↔ ∀ k, k < 42 → day ≤ k → aptB I e.toInt to k = true) := by
  intro j
  induction j with
  | zero =>
    intro fuel s h1 h2 h3 h4
    obtain ⟨f, rfl⟩ : ∃ f, fuel = f + 1 := ⟨fuel - 1, by omega⟩
    refine ⟨s, 0, ?_, rfl, by omega, h3, fun day hd => ⟨fun _ k k1 k2 => h4 k (by omega) k1, fun _ => by omega⟩⟩
    unfold l_X4_findApart_26
    rw [if_pos (by decide)]
  | succ j ih =>
    intro fuel s h1 h2 h3 h4
    obtain ⟨f, rfl⟩ : ∃ f, fuel = f + 1 := ⟨fuel - 1, by omega⟩
    have g5 : s.1 89 5 = nI to := by rw [h3]; exact h5
    have g8 : s.1 89 8 = e := by rw [h3]; exact h8
    have hca : ∀ k, caA s.1 k = caA I k := fun k => by rw [h3]; rfl
    have hap : ∀ c k, aptB s.1 (s.1 89 8).toInt c k = aptB I e.toInt c k := fun c k => by
      unfold aptB
      rw [hca, hca, hca, g8]
    have hGe : Ge s.1 (s.1 89 8) := by
      rw [g8]
      rcases he with he | ⟨a, b, d, d1, d2, d3, d4⟩
      · exact .inl he
      · exact .inr ⟨a, b, d, d1, by rw [h3]; exact d2, by rw [h3]; exact d3, by rw [h3]; exact d4⟩
    unfold l_X4_findApart_26
    rw [nI_p1 (by omega), show j + 1 - 1 = j by omega, if_neg (nI_pos (by omega)), g5, apt9 hGe ht (by omega), Option.bind_some, hap]
    by_cases ha : aptB I e.toInt to j = true
    · rw [if_pos ha, if_neg (by decide)]
      obtain ⟨s', S, e1, e2, e3, e4, e5⟩ := ih f (q_wi s 89 9 (nI j)) (by omega) (by omega) (by
        funext q i
        rw [r_wi, h3]
        dsimp only
        by_cases hq : q = 89 ∧ i = 9
        · rw [if_pos hq, if_pos hq]
        · rw [if_neg hq, if_neg hq, if_neg hq]) (fun k k1 k2 => by
        by_cases hk : k = j
        · rw [hk]; exact ha
        · exact h4 k (by omega) k2)
      exact ⟨s', S, e1, e2, e3, e4, e5⟩
    · rw [if_neg ha, if_pos rfl]
      refine ⟨s, j + 1, rfl, rfl, h1, h3, fun day hd => ⟨fun w k k1 k2 => h4 k (by omega) k1, fun w => ?_⟩⟩
      rcases Nat.lt_or_ge day (j + 1) with z | z
      · exact absurd (w j (by omega) (by omega)) ha
      · exact z
