/-! PURE: miss -/
theorem bt_1 (i : Nat) : bt 1 i = decide (i = 0) := by
  show (1#32).getLsbD i = _
  rw [BitVec.getLsbD_one]
  simp
theorem bt_test {x : Int32} {t : Nat} (ht : t < 32) : (x >>> (nI t &&& 31)) &&& 1 = if bt x t = true then 1 else 0 := by
  apply b_ext
  intro i hi
  rw [b_and, b_sshr t ht x hi, bt_1]
  by_cases h0 : i = 0
  · subst h0
    rw [if_pos (by omega), Nat.add_zero]
    by_cases hb : bt x t = true
    · rw [if_pos hb, hb, bt_1]; rfl
    · rw [if_neg hb, b_0]
      simp only [Bool.not_eq_true] at hb
      rw [hb]; rfl
  · rw [decide_eq_false h0, Bool.and_false]
    by_cases hb : bt x t = true
    · rw [if_pos hb, bt_1, decide_eq_false h0]
    · rw [if_neg hb, b_0]
theorem bt_test1 {x : Int32} {t : Nat} (ht : t < 32) : (x >>> (nI t &&& 31)) &&& 1 = 1 ↔ bt x t = true := by
  rw [bt_test ht]
  by_cases hb : bt x t = true
  · simp [hb]
  · rw [if_neg hb]; simp [hb]
theorem bt_test0 {x : Int32} {t : Nat} (ht : t < 32) : (x >>> (nI t &&& 31)) &&& 1 = 0 ↔ bt x t = false := by
  rw [bt_test ht]
  by_cases hb : bt x t = true
  · simp [hb]
  · rw [if_neg hb]; simp [hb]
theorem bt_pow {u t : Nat} (hu : u < 32) (ht : t < 32) : bt ((1 : Int32) <<< (nI u &&& 31)) t = decide (t = u) := by
  rw [b_shl u hu 1 ht, bt_1]
  by_cases h : t = u
  · subst h; simp
  · by_cases h2 : u ≤ t
    · have : ¬ t - u = 0 := by omega
      simp [h, h2, this]
    · simp [h, h2]
theorem mBits_bt {sh ho tu : Nat → Int32} {s h t : Nat} (ht : t < 32) : ∀ c, (∀ i, i < c → ∃ u : Nat, u < 12 ∧ tu i = nI u) → (bt (mBits sh ho tu s h c) t = true ↔ ∃ i, i < c ∧ sh i = nI s ∧ ho i = nI h ∧ tu i = nI t) := by
  intro c
  induction c with
  | zero => intro _; simp [mBits, b_0]
  | succ c ih =>
    intro hu
    have ih := ih (fun i hi => hu i (by omega))
    obtain ⟨u, hu1, hu2⟩ := hu c (by omega)
    unfold mBits
    by_cases hc : sh c = nI s ∧ ho c = nI h
    · rw [if_pos hc, b_or, hu2, bt_pow (by omega) ht, Bool.or_eq_true, ih, decide_eq_true_eq]
      constructor
      · rintro (⟨i, h1, h2⟩ | rfl)
        · exact ⟨i, by omega, h2⟩
        · exact ⟨c, by omega, hc.1, hc.2, hu2⟩
      · rintro ⟨i, h1, h2, h3, h4⟩
        by_cases hic : i = c
        · subst hic
          rw [hu2] at h4
          exact Or.inr ((nI_eq (by omega) (by omega)).mp h4).symm
        · exact Or.inl ⟨i, by omega, h2, h3, h4⟩
    · rw [if_neg hc, ih]
      constructor
      · rintro ⟨i, h1, h2⟩
        exact ⟨i, by omega, h2⟩
      · rintro ⟨i, h1, h2, h3, h4⟩
        by_cases hic : i = c
        · subst hic; exact absurd ⟨h2, h3⟩ hc
        · exact ⟨i, by omega, h2, h3, h4⟩
theorem mBits_congr {sh ho tu sh' ho' tu' : Nat → Int32} {s h : Nat} : ∀ c, (∀ i, i < c → sh' i = sh i ∧ ho' i = ho i ∧ tu' i = tu i) → mBits sh' ho' tu' s h c = mBits sh ho tu s h c := by
  intro c
  induction c with
  | zero => intro _; rfl
  | succ c ih =>
    intro hh
    unfold mBits
    rw [ih (fun i hi => hh i (by omega)), (hh c (by omega)).1, (hh c (by omega)).2.1, (hh c (by omega)).2.2]
theorem miss60_yes {m : q_Mm} {k : Nat} {x y z : Int32} (hk : k ≤ 20) (e : m.1 58 15 = nI k) : ∀ (n i fuel : Nat), k - i ≤ n → n < fuel → (∃ j, i ≤ j ∧ j < k ∧ m.1 67 j = x ∧ m.1 68 j = y ∧ m.1 69 j = z) → l_X10_miss_60 fuel x y z (nI i) m = some (.inl ()) := by
  intro n
  induction n with
  | zero => intro i fuel h1 h2 ⟨j, h3, h4, h5⟩; omega
  | succ n ih =>
    intro i fuel h1 h2 ⟨j, h3, h4, h5⟩
    obtain ⟨f, rfl⟩ : ∃ f, fuel = f + 1 := ⟨fuel - 1, by omega⟩
    unfold l_X10_miss_60
    rw [e, if_neg (nI_ge (by omega) (by omega)), r_in (show i < 20 by omega) (by decide), r_cl (by omega), nI_1]
    simp only [if_true]
    by_cases hx : m.1 67 i = x ∧ m.1 68 i = y ∧ m.1 69 i = z
    · rw [if_pos hx.1, if_pos hx.2.1, if_pos hx.2.2]
    · have go := ih (i + 1) f (by omega) (by omega) ⟨j, by rcases Nat.lt_or_ge i j with h | h; exact h; exact absurd h5 (by rw [show j = i by omega]; exact hx), h4, h5⟩
      rw [go]
      repeat' split
      all_goals first | rfl | (exfalso; exact hx ⟨by assumption, by assumption, by assumption⟩)
theorem miss60_no {m : q_Mm} {k : Nat} {x y z : Int32} (hk : k ≤ 20) (e : m.1 58 15 = nI k) : ∀ (n i fuel : Nat), k - i ≤ n → i ≤ k → n < fuel → (∀ j, i ≤ j → j < k → ¬ (m.1 67 j = x ∧ m.1 68 j = y ∧ m.1 69 j = z)) → l_X10_miss_60 fuel x y z (nI i) m = some (.inr ()) := by
  intro n
  induction n with
  | zero =>
    intro i fuel h1 h2 h3 _
    obtain ⟨f, rfl⟩ : ∃ f, fuel = f + 1 := ⟨fuel - 1, by omega⟩
    unfold l_X10_miss_60
    rw [e, if_pos (nI_le (by omega) (by omega))]
  | succ n ih =>
    intro i fuel h1 h2 h3 h4
    obtain ⟨f, rfl⟩ : ∃ f, fuel = f + 1 := ⟨fuel - 1, by omega⟩
    unfold l_X10_miss_60
    by_cases hi : i = k
    · rw [e, if_pos (nI_le (by omega) (by omega))]
    · rw [e, if_neg (nI_ge (by omega) (by omega)), r_in (show i < 20 by omega) (by decide), r_cl (by omega), nI_1]
      simp only [if_true]
      have go := ih (i + 1) f (by omega) (by omega) (by omega) (fun j hj => h4 j (by omega))
      rw [go]
      repeat' split
      all_goals first | rfl | (exfalso; exact h4 i (Nat.le_refl _) (by omega) ⟨by assumption, by assumption, by assumption⟩)
