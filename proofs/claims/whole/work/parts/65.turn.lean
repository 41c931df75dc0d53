/-! PURE: turn -/
theorem nI_m1 {k : Nat} (h : 0 < k) : nI k - 1 = nI (k - 1) := by
  obtain ⟨j, rfl⟩ : ∃ j, k = j + 1 := ⟨k - 1, by omega⟩
  rw [nI_pred]; rfl
theorem nI_p1 {k : Nat} (h : 0 < k) : nI k + (-1) = nI (k - 1) := by
  obtain ⟨j, rfl⟩ : ∃ j, k = j + 1 := ⟨k - 1, by omega⟩
  rw [pk_m1]; rfl
theorem nI_le0 {k : Nat} (hk : k < 2 ^ 31) : nI k ≤ 0 ↔ k = 0 := by
  rw [r_le, r_nI hk]
  show (k : Int) ≤ 0 ↔ _
  omega
theorem r12p (p i : Nat) : 12 * nI p + nI i = nI (12 * p + i) := by rw [show (12 : Int32) = nI 12 from rfl, pk_mul, nI_add]
theorem turnsAt_yes {m : q_Mm} {b c : Nat} {x : Int32} (hc : c ≤ 12) (e : m.1 b 2 = nI c) : ∀ (n i fuel : Nat), c - i ≤ n → n < fuel → (∃ j, i ≤ j ∧ j < c ∧ m.1 (b + 1) j = x) → l_X5_turnsAt_2 fuel b x (nI i) m = some (.inl ()) := by
  intro n
  induction n with
  | zero => intro i fuel h1 h2 ⟨j, h3, h4, h5⟩; omega
  | succ n ih =>
    intro i fuel h1 h2 ⟨j, h3, h4, h5⟩
    obtain ⟨f, rfl⟩ : ∃ f, fuel = f + 1 := ⟨fuel - 1, by omega⟩
    unfold l_X5_turnsAt_2
    rw [e, if_neg (nI_ge (by omega) (by omega)), if_pos (r_in (by omega) (by decide)), r_cl (by omega)]
    by_cases hx : m.1 (b + 1) i = x
    · rw [if_pos hx]
    · rw [if_neg hx, nI_1]
      exact ih (i + 1) f (by omega) (by omega) ⟨j, by rcases Nat.lt_or_ge i j with h | h; exact h; exact absurd h5 (by rw [show j = i by omega]; exact hx), h4, h5⟩
theorem turnsAt_no {m : q_Mm} {b c : Nat} {x : Int32} (hc : c ≤ 12) (e : m.1 b 2 = nI c) : ∀ (n i fuel : Nat), c - i ≤ n → i ≤ c → n < fuel → (∀ j, i ≤ j → j < c → ¬ m.1 (b + 1) j = x) → l_X5_turnsAt_2 fuel b x (nI i) m = some (.inr ()) := by
  intro n
  induction n with
  | zero =>
    intro i fuel h1 h2 h3 _
    obtain ⟨f, rfl⟩ : ∃ f, fuel = f + 1 := ⟨fuel - 1, by omega⟩
    unfold l_X5_turnsAt_2
    rw [e, if_pos (nI_le (by omega) (by omega))]
  | succ n ih =>
    intro i fuel h1 h2 h3 h4
    obtain ⟨f, rfl⟩ : ∃ f, fuel = f + 1 := ⟨fuel - 1, by omega⟩
    unfold l_X5_turnsAt_2
    by_cases hi : i = c
    · rw [e, if_pos (nI_le (by omega) (by omega))]
    · rw [e, if_neg (nI_ge (by omega) (by omega)), if_pos (r_in (by omega) (by decide)), r_cl (by omega), if_neg (h4 i (Nat.le_refl _) (by omega)), nI_1]
      exact ih (i + 1) f (by omega) (by omega) (by omega) (fun j hj => h4 j (by omega))
theorem turn63_yes {m : q_Mm} {p c : Nat} {x x3 y5 : Int32} (hp : p < 4) (hc : c ≤ 12) : ∀ (n i fuel : Nat), c - i ≤ n → n < fuel → (∃ j, i ≤ j ∧ j < c ∧ m.1 59 (12 * p + j) = x) → l_X10_turn_63 fuel (nI p) x x3 (nI c) y5 (nI i) m = some (.inl ()) := by
  intro n
  induction n with
  | zero => intro i fuel h1 h2 ⟨j, h3, h4, h5⟩; omega
  | succ n ih =>
    intro i fuel h1 h2 ⟨j, h3, h4, h5⟩
    obtain ⟨f, rfl⟩ : ∃ f, fuel = f + 1 := ⟨fuel - 1, by omega⟩
    unfold l_X10_turn_63
    rw [if_neg (nI_ge (by omega) (by omega)), r12p, if_pos (r_in (by omega) (by decide)), r_cl (by omega)]
    by_cases hx : m.1 59 (12 * p + i) = x
    · rw [if_pos hx]
    · rw [if_neg hx, nI_1]
      exact ih (i + 1) f (by omega) (by omega) ⟨j, by rcases Nat.lt_or_ge i j with h | h; exact h; exact absurd h5 (by rw [show j = i by omega]; exact hx), h4, h5⟩
theorem turn63_no {m : q_Mm} {p c : Nat} {x x3 y5 : Int32} (hp : p < 4) (hc : c ≤ 12) : ∀ (n i fuel : Nat), c - i ≤ n → i ≤ c → n < fuel → (∀ j, i ≤ j → j < c → ¬ m.1 59 (12 * p + j) = x) → l_X10_turn_63 fuel (nI p) x x3 (nI c) y5 (nI i) m = some (.inr ()) := by
  intro n
  induction n with
  | zero =>
    intro i fuel h1 h2 h3 _
    obtain ⟨f, rfl⟩ : ∃ f, fuel = f + 1 := ⟨fuel - 1, by omega⟩
    unfold l_X10_turn_63
    rw [if_pos (nI_le (by omega) (by omega))]
  | succ n ih =>
    intro i fuel h1 h2 h3 h4
    obtain ⟨f, rfl⟩ : ∃ f, fuel = f + 1 := ⟨fuel - 1, by omega⟩
    unfold l_X10_turn_63
    by_cases hi : i = c
    · rw [if_pos (nI_le (by omega) (by omega))]
    · rw [if_neg (nI_ge (by omega) (by omega)), r12p, if_pos (r_in (by omega) (by decide)), r_cl (by omega), if_neg (h4 i (Nat.le_refl _) (by omega)), nI_1]
      exact ih (i + 1) f (by omega) (by omega) (by omega) (fun j hj => h4 j (by omega))
/-- how an insertion shifts two rows a, b from offset o on: places pos + 1 to at take what was one ahead -/
def Shf (a b o pos at' : Nat) (m m' : q_Mm) : Prop := m'.2 = m.2 ∧ (∀ k, ¬ k = a → ¬ k = b → m'.1 k = m.1 k) ∧
  (∀ i, m'.1 a i = if o + pos < i ∧ i ≤ o + at' then m.1 a (i - 1) else m.1 a i) ∧ ∀ i, m'.1 b i = if o + pos < i ∧ i ≤ o + at' then m.1 b (i - 1) else m.1 b i
theorem Shf.rf {a b o at' : Nat} {m : q_Mm} : Shf a b o at' at' m m := ⟨rfl, fun _ _ _ => rfl, fun i => by rw [if_neg (by omega)], fun i => by rw [if_neg (by omega)]⟩
theorem Shf.step {a b o pos at' : Nat} {m m' : q_Mm} (hab : ¬ a = b) (hp : pos ≤ at') (h : Shf a b o pos at' (q_wi (q_wi m a (o + at' + 1) (m.1 a (o + at'))) b (o + at' + 1) (m.1 b (o + at'))) m') : Shf a b o pos (at' + 1) m m' := by
  obtain ⟨h1, h2, h3, h4⟩ := h
  refine ⟨h1, fun k ha hb => ?_, fun i => ?_, fun i => ?_⟩
  · rw [h2 k ha hb, r_row hb, r_row ha]
  · rw [h3 i, r_wi, r_wi, r_wi, r_wi]
    by_cases c1 : i = o + at' + 1
    · subst c1
      rw [if_neg (by omega), if_neg (by omega), if_pos ⟨rfl, rfl⟩, if_pos (by omega)]
      rfl
    · by_cases c2 : o + pos < i ∧ i ≤ o + at'
      · rw [if_pos c2, if_neg (by omega), if_neg (by omega), if_pos (by omega)]
      · rw [if_neg c2, if_neg (by omega), if_neg (by omega), if_neg (by omega)]
  · rw [h4 i, r_wi, r_wi, r_wi, r_wi]
    by_cases c1 : i = o + at' + 1
    · subst c1
      rw [if_neg (by omega), if_pos ⟨rfl, rfl⟩, if_pos (by omega)]
      rfl
    · by_cases c2 : o + pos < i ∧ i ≤ o + at'
      · rw [if_pos c2, if_neg (by omega), if_neg (by omega), if_pos (by omega)]
      · rw [if_neg c2, if_neg (by omega), if_neg (by omega), if_neg (by omega)]
theorem insert_l {b : Nat} {x1 x2 : Int32} : ∀ (n fuel : Nat) (m : q_Mm), n < 12 → n < fuel → ∃ pos m', l_X5_insert_5 fuel b x1 x2 (nI n) m = some (nI pos, m') ∧ pos ≤ n ∧ Shf (b + 1) (b + 2) 0 pos n m m' ∧ (pos = 0 ∨ m.1 (b + 1) (pos - 1) ≤ x1) ∧ ∀ i, pos ≤ i → i < n → ¬ m.1 (b + 1) i ≤ x1 := by
  intro n
  induction n with
  | zero =>
    intro fuel m h1 h2
    obtain ⟨f, rfl⟩ : ∃ f, fuel = f + 1 := ⟨fuel - 1, by omega⟩
    refine ⟨0, m, ?_, Nat.le_refl _, Shf.rf, Or.inl rfl, fun i h3 h4 => by omega⟩
    unfold l_X5_insert_5
    rw [if_pos (by decide)]
  | succ n ih =>
    intro fuel m h1 h2
    obtain ⟨f, rfl⟩ : ∃ f, fuel = f + 1 := ⟨fuel - 1, by omega⟩
    unfold l_X5_insert_5
    rw [if_neg (fun e => by rw [nI_le0 (by omega)] at e; omega), nI_pred, r_in (show n < 12 by omega) (by decide), r_in (show n + 1 < 12 by omega) (by decide), r_cl (show n < 2 ^ 31 by omega), r_cl (show n + 1 < 2 ^ 31 by omega), pk_m1]
    simp only [if_true]
    by_cases hx : m.1 (b + 1) n ≤ x1
    · refine ⟨n + 1, m, ?_, Nat.le_refl _, Shf.rf, Or.inr hx, fun i h3 h4 => by omega⟩
      rw [if_pos hx]
    · have e2 : (q_wi m (b + 1) (n + 1) (m.1 (b + 1) n)).1 (b + 2) n = m.1 (b + 2) n := by rw [r_wi, if_neg (by omega)]
      rw [if_neg hx, e2]
      obtain ⟨pos, m', a1, a2, a3, a4, a5⟩ := ih f (q_wi (q_wi m (b + 1) (n + 1) (m.1 (b + 1) n)) (b + 2) (n + 1) (m.1 (b + 2) n)) (by omega) (by omega)
      have er : ∀ i, i ≤ n → (q_wi (q_wi m (b + 1) (n + 1) (m.1 (b + 1) n)) (b + 2) (n + 1) (m.1 (b + 2) n)).1 (b + 1) i = m.1 (b + 1) i := fun i hi => by rw [r_wi, if_neg (by omega), r_wi, if_neg (by omega)]
      refine ⟨pos, m', a1, by omega, ?_, ?_, ?_⟩
      · refine Shf.step (by omega) a2 ?_
        rw [Nat.zero_add]
        exact a3
      · rcases a4 with h | h
        · exact Or.inl h
        · rw [er (pos - 1) (by omega)] at h
          exact Or.inr h
      · intro i h3 h4
        rcases Nat.lt_or_ge i n with h | h
        · have := a5 i h3 h
          rw [er i (by omega)] at this
          exact this
        · rw [show i = n by omega]
          exact hx
theorem turn95_l {p : Nat} {x2 x3 : Int32} (hp : p < 4) : ∀ (n fuel : Nat) (m : q_Mm), n < 12 → n < fuel → ∃ pos m', l_X10_turn_95 fuel (nI p) x2 x3 (nI n) m = some (nI pos, m') ∧ pos ≤ n ∧ Shf 59 60 (12 * p) pos n m m' ∧ (pos = 0 ∨ m.1 59 (12 * p + (pos - 1)) ≤ x2) ∧ ∀ i, pos ≤ i → i < n → ¬ m.1 59 (12 * p + i) ≤ x2 := by
  intro n
  induction n with
  | zero =>
    intro fuel m h1 h2
    obtain ⟨f, rfl⟩ : ∃ f, fuel = f + 1 := ⟨fuel - 1, by omega⟩
    refine ⟨0, m, ?_, Nat.le_refl _, Shf.rf, Or.inl rfl, fun i h3 h4 => by omega⟩
    unfold l_X10_turn_95
    rw [if_pos (by decide)]
  | succ n ih =>
    intro fuel m h1 h2
    obtain ⟨f, rfl⟩ : ∃ f, fuel = f + 1 := ⟨fuel - 1, by omega⟩
    unfold l_X10_turn_95
    have e0 : 12 * nI p + nI (n + 1) = nI (12 * p + n + 1) := r12p p (n + 1)
    rw [if_neg (fun e => by rw [nI_le0 (by omega)] at e; omega), e0, nI_pred, r_in (show 12 * p + n < 48 by omega) (by decide), r_in (show 12 * p + n + 1 < 48 by omega) (by decide), r_cl (show 12 * p + n < 2 ^ 31 by omega), r_cl (show 12 * p + n + 1 < 2 ^ 31 by omega), pk_m1]
    simp only [if_true]
    by_cases hx : m.1 59 (12 * p + n) ≤ x2
    · refine ⟨n + 1, m, ?_, Nat.le_refl _, Shf.rf, Or.inr hx, fun i h3 h4 => by omega⟩
      rw [if_pos hx]
    · have e2 : (q_wi m 59 (12 * p + n + 1) (m.1 59 (12 * p + n))).1 60 (12 * p + n) = m.1 60 (12 * p + n) := by rw [r_wi, if_neg (by omega)]
      rw [if_neg hx, e2]
      obtain ⟨pos, m', a1, a2, a3, a4, a5⟩ := ih f (q_wi (q_wi m 59 (12 * p + n + 1) (m.1 59 (12 * p + n))) 60 (12 * p + n + 1) (m.1 60 (12 * p + n))) (by omega) (by omega)
      have er : ∀ i, i ≤ n → (q_wi (q_wi m 59 (12 * p + n + 1) (m.1 59 (12 * p + n))) 60 (12 * p + n + 1) (m.1 60 (12 * p + n))).1 59 (12 * p + i) = m.1 59 (12 * p + i) := fun i hi => by rw [r_wi, if_neg (by omega), r_wi, if_neg (by omega)]
      refine ⟨pos, m', a1, by omega, Shf.step (by omega) a2 a3, ?_, ?_⟩
      · rcases a4 with h | h
        · exact Or.inl h
        · rw [er (pos - 1) (by omega)] at h
          exact Or.inr h
      · intro i h3 h4
        rcases Nat.lt_or_ge i n with h | h
        · have := a5 i h3 h
          rw [er i (by omega)] at this
          exact this
        · rw [show i = n by omega]
          exact hx
