/-! PURE: the lurker's choice -/
/-- the weights that bits take -/
def wS (w : Nat → Int32) (b : Int32) : Nat → Int32
  | 0 => 0
  | q + 1 => wS w b q + (if bt b q = true then w q else 0)
theorem and1 (x : Int32) : x &&& 1 = (x >>> (nI 0 &&& 31)) &&& 1 := by
  refine b_ext (fun i hi => ?_)
  rw [b_and, b_and, b_sshr 0 (by omega) x hi, if_pos (by omega), Nat.zero_add]
theorem mul_t (a b : Int32) {q : Nat} (hq : q < 32) : a * ((b >>> (nI q &&& 31)) &&& 1) = if bt b q = true then a else 0 := by
  rw [bt_test hq]
  split
  · rw [Int32.mul_one]
  · rw [Int32.mul_zero]
theorem sum9 (w : Nat → Int32) (b : Int32) : (((w 0 * (b &&& 1)) + (w 1 * ((b >>> ((1 : Int32) &&& 31)) &&& 1))) + (w 2 * ((b >>> ((2 : Int32) &&& 31)) &&& 1))) + (w 3 * ((b >>> ((3 : Int32) &&& 31)) &&& 1)) = wS w b 4 := by
  rw [and1, mul_t (w 0) b (q := 0) (by omega), show w 1 * ((b >>> ((1 : Int32) &&& 31)) &&& 1) = _ from mul_t (w 1) b (q := 1) (by omega), show w 2 * ((b >>> ((2 : Int32) &&& 31)) &&& 1) = _ from mul_t (w 2) b (q := 2) (by omega), show w 3 * ((b >>> ((3 : Int32) &&& 31)) &&& 1) = _ from mul_t (w 3) b (q := 3) (by omega)]
  show _ = (((0 + _) + _) + _) + _
  rw [Int32.zero_add]
theorem sum10 {s : q_Mm} {p : Nat} (hp : p < 4) (y : Int32) : l_X10_worstOf_20 7000 y (nI p) 0 0 s = some (wS (s.1 74) (s.1 75 p) 4) :=
  qlp7g (fun f i (z : Int32) => l_X10_worstOf_20 f y (nI p) z (nI i) s) 4 0 (fun i => wS (s.1 74) (s.1 75 p) i) (fun z => z) (by omega) (by omega)
    (fun f => by
      show l_X10_worstOf_20 (f + 1) _ _ _ _ _ = _
      unfold l_X10_worstOf_20
      rw [if_pos (by decide)])
    (fun f i _ hi => by
      show l_X10_worstOf_20 (f + 1) _ _ _ _ _ = l_X10_worstOf_20 f _ _ _ _ _
      conv => lhs; unfold l_X10_worstOf_20
      rw [if_neg (i4p hi), if_pos (r_in hp (by decide)), r_cl (show p < 2 ^ 31 by omega), r_cl (show i < 2 ^ 31 by omega), nI_1]
      have pe : wS (s.1 74) (s.1 75 p) (i + 1) = wS (s.1 74) (s.1 75 p) i + (if bt (s.1 75 p) i = true then s.1 74 i else 0) := rfl
      rw [pe]
      by_cases h : bt (s.1 75 p) i = true
      · rw [if_pos ((bt_test1 (by omega)).mpr h), if_pos (r_in hi (by decide)), if_pos h]
      · rw [if_neg (fun z => h ((bt_test1 (by omega)).mp z)), if_neg h])
/-- the sum and the place chosen out of the first i -/
def chs (tk : Nat → Int32) (w : Nat → Int32) : Nat → Int32 × Int32
  | 0 => (0, -6)
  | i + 1 => if tk i = 0 then chs tk w i else if (chs tk w i).2 = -6 then (wS w (tk i) 4, nI i) else if wS w (tk i) 4 ≤ (chs tk w i).1 then chs tk w i else (wS w (tk i) 4, nI i)
theorem wS_in {w : Nat → Int32} {b : Int32} (h : ∀ q, q < 4 → 0 ≤ (w q).toInt ∧ (w q).toInt ≤ 20) : ∀ q, q ≤ 4 → 0 ≤ (wS w b q).toInt ∧ (wS w b q).toInt ≤ 20 * q := by
  intro q
  induction q with
  | zero => intro _; exact (by decide : 0 ≤ (0 : Int32).toInt ∧ (0 : Int32).toInt ≤ 20 * ((0 : Nat) : Int))
  | succ q ih =>
    intro hq
    have h1 := ih (by omega)
    have h2 := h q (by omega)
    unfold wS
    split
    · rw [Int32.toInt_add, Int.bmod_eq_of_le (by omega) (by omega)]
      omega
    · rw [Int32.add_zero]
      omega
theorem chs_2 {tk w : Nat → Int32} : ∀ i, i ≤ 4 → (chs tk w i).2 = -6 ∨ ∃ j : Nat, j < 4 ∧ (chs tk w i).2 = nI j := by
  intro i
  induction i with
  | zero => intro _; exact Or.inl rfl
  | succ i ih =>
    intro hi
    unfold chs
    split
    · exact ih (by omega)
    · split
      · exact Or.inr ⟨i, by omega, rfl⟩
      · split
        · exact ih (by omega)
        · exact Or.inr ⟨i, by omega, rfl⟩
theorem chs_in {tk w : Nat → Int32} (h : ∀ q, q < 4 → 0 ≤ (w q).toInt ∧ (w q).toInt ≤ 20) : ∀ i, 0 ≤ (chs tk w i).1.toInt ∧ (chs tk w i).1.toInt ≤ 80 := by
  intro i
  induction i with
  | zero => exact (by decide : 0 ≤ (0 : Int32).toInt ∧ (0 : Int32).toInt ≤ 80)
  | succ i ih =>
    have h4 := wS_in (b := tk i) h 4 (by omega)
    unfold chs
    split
    · exact ih
    · split
      · dsimp only; omega
      · split
        · exact ih
        · dsimp only; omega
theorem choose9 {m : q_Mm} (w : Nat → Int32) : ∃ m', f_X3_choose (w 0) (w 1) (w 2) (w 3) m = some m' ∧ m'.1 23 7 = (chs (m.1 26) w 4).1 ∧ m'.1 23 8 = (chs (m.1 26) w 4).2 ∧ ∀ k j, ¬ (k = 23 ∧ (j = 7 ∨ j = 8)) → m'.1 k j = m.1 k j := by
  obtain ⟨m', e, b1, b2, b3⟩ := qlp7 (fun f i (s : q_Mm) => l_X3_choose_14 f (w 0) (w 1) (w 2) (w 3) (nI i) s) 4 0 (q_wi (q_wi m 23 7 0) 23 8 (-6)) (fun i s => s.1 23 7 = (chs (m.1 26) w i).1 ∧ s.1 23 8 = (chs (m.1 26) w i).2 ∧ ∀ k j, ¬ (k = 23 ∧ (j = 7 ∨ j = 8)) → s.1 k j = m.1 k j) (fun s => s) (by omega) (by omega) ⟨rfl, rfl, fun k j h => by rw [r_wi, if_neg (by omega), r_wi, if_neg (by omega)]⟩
    (fun f s hs => by
      show l_X3_choose_14 (f + 1) _ _ _ _ _ _ = _
      unfold l_X3_choose_14
      rw [if_pos (by decide)])
    (fun f i s hi hs => by
      obtain ⟨s1, s2, s3⟩ := hs
      have pe : chs (m.1 26) w (i + 1) = if m.1 26 i = 0 then chs (m.1 26) w i else if (chs (m.1 26) w i).2 = -6 then (wS w (m.1 26 i) 4, nI i) else if wS w (m.1 26 i) 4 ≤ (chs (m.1 26) w i).1 then chs (m.1 26) w i else (wS w (m.1 26 i) 4, nI i) := rfl
      have un : l_X3_choose_14 (f + 1) (w 0) (w 1) (w 2) (w 3) (nI i) s = if m.1 26 i = 0 then l_X3_choose_14 f (w 0) (w 1) (w 2) (w 3) (nI (i + 1)) s else if (chs (m.1 26) w i).2 = -6 then l_X3_choose_14 f (w 0) (w 1) (w 2) (w 3) (nI (i + 1)) (q_wi (q_wi s 23 7 (wS w (m.1 26 i) 4)) 23 8 (nI i)) else if wS w (m.1 26 i) 4 ≤ (chs (m.1 26) w i).1 then l_X3_choose_14 f (w 0) (w 1) (w 2) (w 3) (nI (i + 1)) s else l_X3_choose_14 f (w 0) (w 1) (w 2) (w 3) (nI (i + 1)) (q_wi (q_wi s 23 7 (wS w (m.1 26 i) 4)) 23 8 (nI i)) := by
        conv => lhs; unfold l_X3_choose_14
        rw [if_neg (i4p hi), if_pos (r_in hi (by decide)), r_cl (show i < 2 ^ 31 by omega), nI_1, s3 26 i (by omega), sum9 w (m.1 26 i), s1, s2]
      have w1 : (q_wi (q_wi s 23 7 (wS w (m.1 26 i) 4)) 23 8 (nI i)).1 23 7 = wS w (m.1 26 i) 4 ∧ (q_wi (q_wi s 23 7 (wS w (m.1 26 i) 4)) 23 8 (nI i)).1 23 8 = nI i ∧ ∀ k j, ¬ (k = 23 ∧ (j = 7 ∨ j = 8)) → (q_wi (q_wi s 23 7 (wS w (m.1 26 i) 4)) 23 8 (nI i)).1 k j = m.1 k j :=
        ⟨by rw [r_wi, if_neg (by omega), r_wi, if_pos ⟨rfl, rfl⟩], by rw [r_wi, if_pos ⟨rfl, rfl⟩], fun k j h => by rw [r_wi, if_neg (by omega), r_wi, if_neg (by omega)]; exact s3 k j h⟩
      show ∃ s', l_X3_choose_14 (f + 1) _ _ _ _ _ _ = l_X3_choose_14 f _ _ _ _ _ s' ∧ _
      rw [un, pe]
      split
      · exact ⟨s, rfl, s1, s2, s3⟩
      · split
        · exact ⟨_, rfl, w1⟩
        · split
          · exact ⟨s, rfl, s1, s2, s3⟩
          · exact ⟨_, rfl, w1⟩)
  refine ⟨m', ?_, b1, b2, b3⟩
  unfold f_X3_choose
  rw [show l_X3_choose_14 7000 (w 0) (w 1) (w 2) (w 3) 0 (q_wi (q_wi m 23 7 0) 23 8 (-6)) = some m' from e]
  rfl
theorem chs_congr {tk tk' w w' : Nat → Int32} (h : ∀ i, i < 4 → tk' i = tk i) (hw : ∀ i, i < 4 → w' i = w i) : ∀ i, i ≤ 4 → chs tk' w' i = chs tk w i := by
  have hS : ∀ b, ∀ q, q ≤ 4 → wS w' b q = wS w b q := fun b q => by
    induction q with
    | zero => intro _; rfl
    | succ q ih =>
      intro hq
      unfold wS
      rw [ih (by omega), hw q (by omega)]
  intro i
  induction i with
  | zero => intro _; rfl
  | succ i ih =>
    intro hi
    unfold chs
    rw [ih (by omega), h i (by omega), hS _ 4 (by omega)]
theorem worstOf10 {m : q_Mm} {tk w : Nat → Int32} (ht : ∀ i, i < 4 → m.1 75 i = tk i) (hw : ∀ i, i < 4 → m.1 74 i = w i) : ∃ m', f_X10_worstOf m = some ((chs tk w 4).1, m') ∧ m'.1 58 28 = (chs tk w 4).2 ∧ ∀ k j, ¬ (k = 58 ∧ j = 28) → m'.1 k j = m.1 k j := by
  rw [← chs_congr ht hw 4 (by omega)]
  obtain ⟨⟨y, m'⟩, e, b1, b2, b3⟩ := qlp7 (fun f i (s : Int32 × q_Mm) => l_X10_worstOf_10 f s.1 (nI i) s.2) 4 0 (0, q_wi m 58 28 (-6)) (fun i s => s.1 = (chs (m.1 75) (m.1 74) i).1 ∧ s.2.1 58 28 = (chs (m.1 75) (m.1 74) i).2 ∧ ∀ k j, ¬ (k = 58 ∧ j = 28) → s.2.1 k j = m.1 k j) (fun s => s) (by omega) (by omega) ⟨rfl, rfl, fun k j h => by rw [r_wi, if_neg h]⟩
    (fun f s hs => by
      show l_X10_worstOf_10 (f + 1) _ _ _ = _
      unfold l_X10_worstOf_10
      rw [if_pos (by decide)])
    (fun f i s hi hs => by
      obtain ⟨y, s⟩ := s
      obtain ⟨s1, s2, s3⟩ := hs
      dsimp only at s1 s2 s3
      have r74 : s.1 74 = m.1 74 := funext fun j => s3 74 j (by omega)
      have r75 : s.1 75 = m.1 75 := funext fun j => s3 75 j (by omega)
      have hlt : ((chs (m.1 75) (m.1 74) i).2 < 0) ↔ ((chs (m.1 75) (m.1 74) i).2 = -6) := by
        rcases chs_2 (tk := m.1 75) (w := m.1 74) i (by omega) with h | ⟨j, hj, h⟩
        · rw [h]; exact ⟨fun _ => rfl, fun _ => by decide⟩
        · rw [h]
          have e0 : (0 : Int32).toInt = 0 := rfl
          have e6 : (-6 : Int32).toInt = -6 := rfl
          exact ⟨fun z => by rw [r_lt, r_nI (by omega)] at z; omega, fun z => by rw [r_eq, r_nI (by omega)] at z; omega⟩
      have pe : chs (m.1 75) (m.1 74) (i + 1) = if m.1 75 i = 0 then chs (m.1 75) (m.1 74) i else if (chs (m.1 75) (m.1 74) i).2 = -6 then (wS (m.1 74) (m.1 75 i) 4, nI i) else if wS (m.1 74) (m.1 75 i) 4 ≤ (chs (m.1 75) (m.1 74) i).1 then chs (m.1 75) (m.1 74) i else (wS (m.1 74) (m.1 75 i) 4, nI i) := rfl
      have un : l_X10_worstOf_10 (f + 1) y (nI i) s = if m.1 75 i = 0 then l_X10_worstOf_10 f y (nI (i + 1)) s else if (chs (m.1 75) (m.1 74) i).2 < 0 then l_X10_worstOf_10 f (wS (m.1 74) (m.1 75 i) 4) (nI (i + 1)) (q_wi s 58 28 (nI i)) else if wS (m.1 74) (m.1 75 i) 4 ≤ (chs (m.1 75) (m.1 74) i).1 then l_X10_worstOf_10 f y (nI (i + 1)) s else l_X10_worstOf_10 f (wS (m.1 74) (m.1 75 i) 4) (nI (i + 1)) (q_wi s 58 28 (nI i)) := by
        conv => lhs; unfold l_X10_worstOf_10
        rw [if_neg (i4p hi), sum10 hi, Option.bind_some, if_pos (r_in hi (by decide)), r_cl (show i < 2 ^ 31 by omega), nI_1, r74, r75, s2, s1]
      have w1 : (wS (m.1 74) (m.1 75 i) 4 = wS (m.1 74) (m.1 75 i) 4) ∧ (q_wi s 58 28 (nI i)).1 58 28 = nI i ∧ ∀ k j, ¬ (k = 58 ∧ j = 28) → (q_wi s 58 28 (nI i)).1 k j = m.1 k j :=
        ⟨rfl, by rw [r_wi, if_pos ⟨rfl, rfl⟩], fun k j h => by rw [r_wi, if_neg h]; exact s3 k j h⟩
      show ∃ s', l_X10_worstOf_10 (f + 1) _ _ _ = l_X10_worstOf_10 f (Prod.fst s') _ (Prod.snd s') ∧ _
      dsimp only
      rw [un, pe]
      split
      · exact ⟨(y, s), rfl, s1, s2, s3⟩
      · rename_i h0
        by_cases h6 : (chs (m.1 75) (m.1 74) i).2 = -6
        · rw [if_pos (hlt.mpr h6), if_pos h6]
          exact ⟨(_, _), rfl, w1⟩
        · rw [if_neg (fun z => h6 (hlt.mp z)), if_neg h6]
          split
          · exact ⟨(y, s), rfl, s1, s2, s3⟩
          · exact ⟨(_, _), rfl, w1⟩)
  refine ⟨m', ?_, b2, b3⟩
  unfold f_X10_worstOf
  rw [show l_X10_worstOf_10 7000 0 0 (q_wi m 58 28 (-6)) = some (y, m') from e, Option.bind_some]
  dsimp only at b1 ⊢
  rw [b1]
def w4 (a b c d : Int32) : Nat → Int32
  | 0 => a
  | 1 => b
  | 2 => c
  | 3 => d
  | _ => 0
theorem lay4 {m : q_Mm} {a b c d : Int32} : (∀ i, i < 4 → (q_wi (q_wi (q_wi (q_wi m 74 ((0 : Int32).toNatClampNeg) a) 74 ((1 : Int32).toNatClampNeg) b) 74 ((2 : Int32).toNatClampNeg) c) 74 ((3 : Int32).toNatClampNeg) d).1 74 i = w4 a b c d i) ∧ ∀ k, ¬ k = 74 → (q_wi (q_wi (q_wi (q_wi m 74 ((0 : Int32).toNatClampNeg) a) 74 ((1 : Int32).toNatClampNeg) b) 74 ((2 : Int32).toNatClampNeg) c) 74 ((3 : Int32).toNatClampNeg) d).1 k = m.1 k := by
  constructor
  · intro i hi
    match i, hi with
    | 0, _ => rfl
    | 1, _ => rfl
    | 2, _ => rfl
    | 3, _ => rfl
  · intro k hk
    rw [r_row hk, r_row hk, r_row hk, r_row hk]
theorem ok_worst : q_OK_worst Inv := by
  intro x1 x2 x3 x4 x5 x6 m hI
  have n9 : ∀ (x : Int32) (m : q_Mm), f_X9_isWeight x m = 0 ↔ ¬ (0 ≤ x.toInt ∧ x.toInt ≤ 20) := fun x m => r_within
  have n10 : ∀ (x : Int32) (m : q_Mm), f_X10_in x.toInt64 0 20 m = 0 ↔ ¬ (0 ≤ x.toInt ∧ x.toInt ≤ 20) := fun x m => r_inn
  have a9 : ∀ (x : Int32) (m : q_Mm), f_X9_within x 0 600 m = 0 ↔ ¬ (0 ≤ x.toInt ∧ x.toInt ≤ 600) := fun x m => r_within
  have a10 : ∀ (x : Int32) (m : q_Mm), f_X10_in x.toInt64 0 600 m = 0 ↔ ¬ (0 ≤ x.toInt ∧ x.toInt ≤ 600) := fun x m => r_inn
  have c9 : ∀ (x : Int32) (m : q_Mm), f_X9_within x 0 1 m = 0 ↔ ¬ (0 ≤ x.toInt ∧ x.toInt ≤ 1) := fun x m => r_within
  have c10 : ∀ (x : Int32) (m : q_Mm), f_X10_in x.toInt64 0 1 m = 0 ↔ ¬ (0 ≤ x.toInt ∧ x.toInt ≤ 1) := fun x m => r_inn
  by_cases g1 : 0 ≤ x1.toInt ∧ x1.toInt ≤ 600
  case neg =>
    refine ⟨-2, m, m, ?_, ?_, hI⟩
    · unfold f_X9_worst; rw [if_pos ((a9 _ _).mpr g1)]
    · unfold f_X10_worst; rw [if_pos ((a10 _ _).mpr g1)]
  by_cases g2 : 0 ≤ x2.toInt ∧ x2.toInt ≤ 20
  case neg =>
    refine ⟨-2, m, m, ?_, ?_, hI⟩
    · unfold f_X9_worst; rw [if_neg (fun z => (a9 _ _).mp z g1), if_pos ((n9 _ _).mpr g2)]
    · unfold f_X10_worst; rw [if_neg (fun z => (a10 _ _).mp z g1), if_pos ((n10 _ _).mpr g2)]
  by_cases g3 : 0 ≤ x3.toInt ∧ x3.toInt ≤ 20
  case neg =>
    refine ⟨-2, m, m, ?_, ?_, hI⟩
    · unfold f_X9_worst; rw [if_neg (fun z => (a9 _ _).mp z g1), if_neg (fun z => (n9 _ _).mp z g2), if_pos ((n9 _ _).mpr g3)]
    · unfold f_X10_worst; rw [if_neg (fun z => (a10 _ _).mp z g1), if_neg (fun z => (n10 _ _).mp z g2), if_pos ((n10 _ _).mpr g3)]
  by_cases g4 : 0 ≤ x4.toInt ∧ x4.toInt ≤ 20
  case neg =>
    refine ⟨-2, m, m, ?_, ?_, hI⟩
    · unfold f_X9_worst; rw [if_neg (fun z => (a9 _ _).mp z g1), if_neg (fun z => (n9 _ _).mp z g2), if_neg (fun z => (n9 _ _).mp z g3), if_pos ((n9 _ _).mpr g4)]
    · unfold f_X10_worst; rw [if_neg (fun z => (a10 _ _).mp z g1), if_neg (fun z => (n10 _ _).mp z g2), if_neg (fun z => (n10 _ _).mp z g3), if_pos ((n10 _ _).mpr g4)]
  by_cases g5 : 0 ≤ x5.toInt ∧ x5.toInt ≤ 20
  case neg =>
    refine ⟨-2, m, m, ?_, ?_, hI⟩
    · unfold f_X9_worst; rw [if_neg (fun z => (a9 _ _).mp z g1), if_neg (fun z => (n9 _ _).mp z g2), if_neg (fun z => (n9 _ _).mp z g3), if_neg (fun z => (n9 _ _).mp z g4), if_pos ((n9 _ _).mpr g5)]
    · unfold f_X10_worst; rw [if_neg (fun z => (a10 _ _).mp z g1), if_neg (fun z => (n10 _ _).mp z g2), if_neg (fun z => (n10 _ _).mp z g3), if_neg (fun z => (n10 _ _).mp z g4), if_pos ((n10 _ _).mpr g5)]
  by_cases g6 : 0 ≤ x6.toInt ∧ x6.toInt ≤ 1
  case neg =>
    refine ⟨-2, m, m, ?_, ?_, hI⟩
    · unfold f_X9_worst; rw [if_neg (fun z => (a9 _ _).mp z g1), if_neg (fun z => (n9 _ _).mp z g2), if_neg (fun z => (n9 _ _).mp z g3), if_neg (fun z => (n9 _ _).mp z g4), if_neg (fun z => (n9 _ _).mp z g5), if_pos ((c9 _ _).mpr g6)]
    · unfold f_X10_worst; rw [if_neg (fun z => (a10 _ _).mp z g1), if_neg (fun z => (n10 _ _).mp z g2), if_neg (fun z => (n10 _ _).mp z g3), if_neg (fun z => (n10 _ _).mp z g4), if_neg (fun z => (n10 _ _).mp z g5), if_pos ((c10 _ _).mpr g6)]
  obtain ⟨t, ht, rfl⟩ := r_of g1.1 (n := 601) (by omega) (by decide)
  obtain ⟨m1, b1, b2, b3⟩ := waitAt9 hI (t := t) (by omega)
  obtain ⟨m2, d1, d2, d3, d4⟩ := choose9 (m := m1) (w4 x2 x3 x4 x5)
  have hk : chs (m1.1 26) (w4 x2 x3 x4 x5) 4 = chs (tkn m.1 t) (w4 x2 x3 x4 x5) 4 := chs_congr b3 (fun _ _ => rfl) 4 (by omega)
  rw [hk] at d2 d3
  have u9 : f_X9_worst (nI t) x2 x3 x4 x5 x6 m = if x6 = 0 then some ((chs (tkn m.1 t) (w4 x2 x3 x4 x5) 4).1, m2) else some ((chs (tkn m.1 t) (w4 x2 x3 x4 x5) 4).2, m2) := by
    unfold f_X9_worst
    rw [if_neg (fun z => (a9 _ _).mp z g1), if_neg (fun z => (n9 _ _).mp z g2), if_neg (fun z => (n9 _ _).mp z g3), if_neg (fun z => (n9 _ _).mp z g4), if_neg (fun z => (n9 _ _).mp z g5), if_neg (fun z => (c9 _ _).mp z g6), b1, Option.bind_some, show f_X3_choose x2 x3 x4 x5 m1 = some m2 from d1, Option.bind_some, d2, d3]
  have hI2 : Inv m2 := by
    by_cases z : x6 = 0
    · rw [if_pos z] at u9; exact Inv_s (s_X9_worst u9) hI
    · rw [if_neg z] at u9; exact Inv_s (s_X9_worst u9) hI
  have et : ∀ p, tkn m2.1 t p = tkn m.1 t p := fun p => by
    have h58 : ∀ q, ¬ q = 26 → ¬ q = 23 → m2.1 q = m.1 q := fun q h1 h2 => by
      rw [← b2 q h1]
      exact funext fun j => d4 q j (fun z => h2 z.1)
    have e : ∀ i, pX m2.1 t i = pX m.1 t i ∧ pY m2.1 t i = pY m.1 t i := fun i => by
      unfold pX pY gX gY cn
      rw [h58 58 (by decide) (by decide), h58 59 (by decide) (by decide), h58 60 (by decide) (by decide), h58 61 (by decide) (by decide)]
      exact ⟨rfl, rfl⟩
    have g : ∀ i, gb m2.1 t p i = gb m.1 t p i := fun i => by
      induction i with
      | zero => rfl
      | succ i ih =>
        unfold gb
        rw [ih, (e i).1, (e i).2, (e p).1, (e p).2, h58 58 (by decide) (by decide)]
    unfold tkn cb
    rw [g, (e p).1, (e p).2, h58 58 (by decide) (by decide)]
  obtain ⟨m3, f1, f2, f3⟩ := layCaught10 hI2 (t := t) (by omega)
  obtain ⟨m4, h1, h2, h3⟩ := worstOf10 (m := q_wi (q_wi (q_wi (q_wi m3 74 ((0 : Int32).toNatClampNeg) x2) 74 ((1 : Int32).toNatClampNeg) x3) 74 ((2 : Int32).toNatClampNeg) x4) 74 ((3 : Int32).toNatClampNeg) x5) (tk := tkn m.1 t) (fun i hi => by rw [lay4.2 75 (by decide), f3 i hi, et]) lay4.1
  have u10 : f_X10_worst (nI t) x2 x3 x4 x5 x6 m2 = if x6 = 0 then some ((chs (tkn m.1 t) (w4 x2 x3 x4 x5) 4).1, m4) else some ((chs (tkn m.1 t) (w4 x2 x3 x4 x5) 4).2, m4) := by
    unfold f_X10_worst
    rw [if_neg (fun z => (a10 _ _).mp z g1), if_neg (fun z => (n10 _ _).mp z g2), if_neg (fun z => (n10 _ _).mp z g3), if_neg (fun z => (n10 _ _).mp z g4), if_neg (fun z => (n10 _ _).mp z g5), if_neg (fun z => (c10 _ _).mp z g6), f1, Option.bind_some, h1, Option.bind_some]
    dsimp only
    rw [h2]
  by_cases z : x6 = 0
  · rw [if_pos z] at u9 u10
    exact ⟨_, _, _, u9, u10, Inv_s (s_X10_worst u10) hI2⟩
  · rw [if_neg z] at u9 u10
    exact ⟨_, _, _, u9, u10, Inv_s (s_X10_worst u10) hI2⟩
