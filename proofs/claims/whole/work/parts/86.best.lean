/-! PURE: seen, best -/
theorem pow_c : ∀ c, c ≤ 10 → (1 : Int32) <<< (nI c &&& 31) = nI (2 ^ c) := by
  intro c hc
  exact (by decide +kernel : ∀ c, c < 11 → (1 : Int32) <<< (nI c &&& 31) = nI (2 ^ c)) c (by omega)
theorem ok_seen : q_OK_seen Inv := by
  intro x1 x2 m hI
  obtain ⟨c, hP⟩ := Po_of hI
  have n9 : ∀ (x : Int32) (m : q_Mm), f_X9_within x 1 50 m = 0 ↔ ¬ (1 ≤ x.toInt ∧ x.toInt ≤ 50) := fun x m => r_within
  have n10 : ∀ (x : Int32) (m : q_Mm), f_X10_in x.toInt64 1 50 m = 0 ↔ ¬ (1 ≤ x.toInt ∧ x.toInt ≤ 50) := fun x m => r_inn
  have a9 : f_X9_within x1 0 (((1 : Int32) <<< ((m.1 28 3) &&& 31)) - 1) m = 0 ↔ ¬ (0 ≤ x1.toInt ∧ x1.toInt ≤ (((1 : Int32) <<< (nI c &&& 31)) - 1).toInt) := by
    rw [r_within, hP.2.1]; rfl
  have a10 : ∀ m' : q_Mm, m'.1 58 34 = nI c → (f_X10_in x1.toInt64 0 ((((1 : Int32) <<< ((m'.1 58 34) &&& 31)) - 1).toInt64) m' = 0 ↔ ¬ (0 ≤ x1.toInt ∧ x1.toInt ≤ (((1 : Int32) <<< (nI c &&& 31)) - 1).toInt)) := by
    intro m' h
    rw [r_inn, h, r_64]; rfl
  by_cases g1 : 0 ≤ x1.toInt ∧ x1.toInt ≤ (((1 : Int32) <<< (nI c &&& 31)) - 1).toInt
  case neg =>
    refine ⟨-2, m, m, ?_, ?_, hI⟩
    · unfold f_X9_seen; rw [if_pos (a9.mpr g1)]
    · unfold f_X10_seen; rw [if_pos ((a10 m hP.2.2.1).mpr g1)]
  by_cases g2 : 1 ≤ x2.toInt ∧ x2.toInt ≤ 50
  case neg =>
    refine ⟨-2, m, m, ?_, ?_, hI⟩
    · unfold f_X9_seen; rw [if_neg (fun z => a9.mp z g1), if_pos ((n9 _ _).mpr g2)]
    · unfold f_X10_seen; rw [if_neg (fun z => (a10 m hP.2.2.1).mp z g1), if_pos ((n10 _ _).mpr g2)]
  obtain ⟨d, hd, rfl⟩ := r_of (x := x2) (by omega) (n := 51) (by omega) (by decide)
  have d1 : 1 ≤ d := by rw [r_nI (by omega)] at g2; omega
  obtain ⟨m1, b1, b2, b3, b4⟩ := ring9 (I := m.1) (m := m) hP d1 (by omega) rfl
  have u9 : f_X9_seen x1 (nI d) m = some (nI (rO (Qp m.1 c d x1) (2 * d - 1) (2 * d + 1)), m1) := by
    unfold f_X9_seen
    rw [if_neg (fun z => a9.mp z g1), if_neg (fun z => (n9 _ _).mp z g2), b1, Option.bind_some, seen9 (show 8 * d ≤ 400 by omega) b3, Option.bind_some, b4]
  have hI1 : Inv m1 := Inv_s (s_X9_seen u9) hI
  have hP1 : Po m1.1 c := by
    obtain ⟨p0, p1, p2, p3⟩ := hP
    exact ⟨p0, by rw [b2 28 3 (by omega) (by omega)]; exact p1, by rw [b2 58 34 (by omega) (by omega)]; exact p2, fun i hi => by
      rw [b2 29 i (by omega) (by omega), b2 30 i (by omega) (by omega), b2 31 i (by omega) (by omega), b2 77 i (by omega) (by omega), b2 78 i (by omega) (by omega), b2 79 i (by omega) (by omega)]
      exact p3 i hi⟩
  obtain ⟨m2, e1, e2, e3⟩ := ring10 (I := m1.1) (m := m1) hP1 d1 (by omega) (fun _ _ => rfl)
  have hQ : ∀ z a b, Qp m1.1 c d z a b = Qp m.1 c d z a b := fun z a b => by
    have : ∀ x y i, bp m1.1 x y i = bp m.1 x y i := fun x y i => by
      induction i with
      | zero => rfl
      | succ i ih =>
        unfold bp
        rw [ih, b2 77 i (by omega) (by omega), b2 78 i (by omega) (by omega), b2 79 i (by omega) (by omega)]
    unfold Qp
    rw [this]
  have hQ' : Qp m1.1 c d x1 = Qp m.1 c d x1 := funext fun a => funext fun b => hQ x1 a b
  have u10 : f_X10_seen x1 (nI d) m1 = some (nI (rO (Qp m.1 c d x1) (2 * d - 1) (2 * d + 1)), m2) := by
    unfold f_X10_seen
    rw [if_neg (fun z => (a10 m1 hP1.2.2.1).mp z g1), if_neg (fun z => (n10 _ _).mp z g2), e1, Option.bind_some, seen10 (by omega), Option.bind_some, e3, hQ']
  exact ⟨_, _, _, u9, u10, Inv_s (s_X10_seen u10) hI1⟩
/-- how many bits of the first ten -/
def one10 (y : Int32) : Nat → Int32
  | 0 => 0
  | k + 1 => one10 y k + ((y >>> (nI k &&& 31)) &&& 1)
theorem ones10 (y : Int32) (m : q_Mm) : f_X10_ones y m = some (one10 y 10) := by
  have l := qlp7g (fun f i (s : Int32) => l_X10_ones_4 f y s (nI i) m) 10 0 (fun i => one10 y i) (fun s => s) (by omega) (by omega)
    (fun f => by
      show l_X10_ones_4 (f + 1) _ _ _ _ = _
      unfold l_X10_ones_4
      rw [if_pos (by decide)])
    (fun f i _ hi => by
      show l_X10_ones_4 (f + 1) _ _ _ _ = l_X10_ones_4 f _ _ _ _
      conv => lhs; unfold l_X10_ones_4
      rw [if_neg (show ¬ (10 : Int32) ≤ nI i from nI_ge (b := 10) hi (by decide)), nI_1]
      rfl)
  unfold f_X10_ones
  rw [show l_X10_ones_4 7000 y 0 0 m = some (one10 y 10) from l]
  rfl
theorem bits_eq : ∀ a, a < 32 → ∀ b, b < 32 → f_J6_bitCount_0f7a4 (nI (32 * a + b)) m00 = one10 (nI (32 * a + b)) 10 := by decide +kernel
theorem bits10 {i : Nat} (h : i < 1024) (m : q_Mm) : f_J6_bitCount_0f7a4 (nI i) m = one10 (nI i) 10 := by
  have := bits_eq (i / 32) (by omega) (i % 32) (by omega)
  rw [show 32 * (i / 32) + i % 32 = i by omega] at this
  exact this
/-- the best of the first i sets: set, count -/
def bst (G : Int32 → Nat) (k : Int32) : Nat → Int32 × Int32
  | 0 => (0, -1)
  | i + 1 => if one10 (nI i) 10 = k then if nI (G (nI i)) ≤ (bst G k i).2 then bst G k i else (nI i, nI (G (nI i))) else bst G k i
theorem best9 {m : q_Mm} {c n : Nat} (hc : c ≤ 10) (hn : n ≤ 400) (e3 : m.1 28 3 = nI c) (e : m.1 28 5 = nI n) (k : Int32) : f_X6_bestPosts k m = some (bst (fun y => cnt (m.1 32) y n) k (2 ^ c)).1 := by
  have h2 : 2 ^ c ≤ 1024 := Nat.pow_le_pow_right (by decide) hc (n := 2)
  have l := qlp7g (fun f i (s : Int32 × Int32) => l_X6_bestPosts_7 f k s.1 s.2 (nI i) m) (2 ^ c) 0 (fun i => bst (fun y => cnt (m.1 32) y n) k i) (fun s => s.1) (by omega) (Nat.zero_le _)
    (fun f => by
      show l_X6_bestPosts_7 (f + 1) _ _ _ _ _ = _
      unfold l_X6_bestPosts_7
      rw [e3, pow_c c hc, if_pos (nI_le (Nat.le_refl _) (by omega))])
    (fun f i _ hi => by
      show l_X6_bestPosts_7 (f + 1) _ _ _ _ _ = l_X6_bestPosts_7 f _ _ _ _ _
      have pe : bst (fun y => cnt (m.1 32) y n) k (i + 1) = if one10 (nI i) 10 = k then if nI (cnt (m.1 32) (nI i) n) ≤ (bst (fun y => cnt (m.1 32) y n) k i).2 then bst (fun y => cnt (m.1 32) y n) k i else (nI i, nI (cnt (m.1 32) (nI i) n)) else bst (fun y => cnt (m.1 32) y n) k i := rfl
      conv => lhs; unfold l_X6_bestPosts_7
      rw [e3, pow_c c hc, if_neg (nI_ge hi (by omega)), bits10 (by omega), seen9 hn e, Option.bind_some, nI_1, pe]
      split
      · split
        · rfl
        · rfl
      · rfl)
  unfold f_X6_bestPosts
  rw [show l_X6_bestPosts_7 7000 k 0 (-1) 0 m = some (bst (fun y => cnt (m.1 32) y n) k (2 ^ c)).1 from l]
  rfl
theorem best10 {m : q_Mm} {c d : Nat} (hc : c ≤ 10) (hd : d ≤ 50) (e3 : m.1 58 34 = nI c) (k : Int32) : l_X10_best_42 7000 k (nI d) 0 (-1) 0 m = some (bst (fun y => cnt (m.1 80) y (8 * d)) k (2 ^ c)).1 := by
  have h2 : 2 ^ c ≤ 1024 := Nat.pow_le_pow_right (by decide) hc (n := 2)
  exact qlp7g (fun f i (s : Int32 × Int32) => l_X10_best_42 f k (nI d) s.1 s.2 (nI i) m) (2 ^ c) 0 (fun i => bst (fun y => cnt (m.1 80) y (8 * d)) k i) (fun s => s.1) (by omega) (Nat.zero_le _)
    (fun f => by
      show l_X10_best_42 (f + 1) _ _ _ _ _ _ = _
      unfold l_X10_best_42
      rw [e3, pow_c c hc, if_pos (nI_le (Nat.le_refl _) (by omega))])
    (fun f i _ hi => by
      show l_X10_best_42 (f + 1) _ _ _ _ _ _ = l_X10_best_42 f _ _ _ _ _ _
      have pe : bst (fun y => cnt (m.1 80) y (8 * d)) k (i + 1) = if one10 (nI i) 10 = k then if nI (cnt (m.1 80) (nI i) (8 * d)) ≤ (bst (fun y => cnt (m.1 80) y (8 * d)) k i).2 then bst (fun y => cnt (m.1 80) y (8 * d)) k i else (nI i, nI (cnt (m.1 80) (nI i) (8 * d))) else bst (fun y => cnt (m.1 80) y (8 * d)) k i := rfl
      conv => lhs; unfold l_X10_best_42
      rw [e3, pow_c c hc, if_neg (nI_ge hi (by omega)), ones10, Option.bind_some, seen10 hd, Option.bind_some, Option.bind_some, nI_1, pe]
      split
      · split
        · rfl
        · rfl
      · rfl)
theorem ok_best : q_OK_best Inv := by
  intro x1 x2 m hI
  obtain ⟨c, hP⟩ := Po_of hI
  have hc := hP.1
  have n9 : ∀ (x : Int32) (m : q_Mm), f_X9_within x 1 50 m = 0 ↔ ¬ (1 ≤ x.toInt ∧ x.toInt ≤ 50) := fun x m => r_within
  have n10 : ∀ (x : Int32) (m : q_Mm), f_X10_in x.toInt64 1 50 m = 0 ↔ ¬ (1 ≤ x.toInt ∧ x.toInt ≤ 50) := fun x m => r_inn
  have a9 : f_X9_within x1 0 (m.1 28 3) m = 0 ↔ ¬ (0 ≤ x1.toInt ∧ x1.toInt ≤ (nI c).toInt) := by
    rw [r_within, hP.2.1]; rfl
  have a10 : ∀ m' : q_Mm, m'.1 58 34 = nI c → (f_X10_in x1.toInt64 0 (m'.1 58 34).toInt64 m' = 0 ↔ ¬ (0 ≤ x1.toInt ∧ x1.toInt ≤ (nI c).toInt)) := by
    intro m' h
    rw [r_inn, h, r_64]; rfl
  by_cases g1 : 0 ≤ x1.toInt ∧ x1.toInt ≤ (nI c).toInt
  case neg =>
    refine ⟨-2, m, m, ?_, ?_, hI⟩
    · unfold f_X9_best; rw [if_pos (a9.mpr g1)]
    · unfold f_X10_best; rw [if_pos ((a10 m hP.2.2.1).mpr g1)]
  by_cases g2 : 1 ≤ x2.toInt ∧ x2.toInt ≤ 50
  case neg =>
    refine ⟨-2, m, m, ?_, ?_, hI⟩
    · unfold f_X9_best; rw [if_neg (fun z => a9.mp z g1), if_pos ((n9 _ _).mpr g2)]
    · unfold f_X10_best; rw [if_neg (fun z => (a10 m hP.2.2.1).mp z g1), if_pos ((n10 _ _).mpr g2)]
  obtain ⟨d, hd, rfl⟩ := r_of (x := x2) (by omega) (n := 51) (by omega) (by decide)
  have d1 : 1 ≤ d := by rw [r_nI (by omega)] at g2; omega
  obtain ⟨m1, b1, b2, b3, b4⟩ := ring9 (I := m.1) (m := m) hP d1 (by omega) rfl
  have f9 : (fun y => cnt (m1.1 32) y (8 * d)) = fun y => rO (Qp m.1 c d y) (2 * d - 1) (2 * d + 1) := funext b4
  have u9 : f_X9_best x1 (nI d) m = some ((bst (fun y => rO (Qp m.1 c d y) (2 * d - 1) (2 * d + 1)) x1 (2 ^ c)).1, m1) := by
    unfold f_X9_best
    rw [if_neg (fun z => a9.mp z g1), if_neg (fun z => (n9 _ _).mp z g2), b1, Option.bind_some, best9 hc (show 8 * d ≤ 400 by omega) (by rw [b2 28 3 (by omega) (by omega)]; exact hP.2.1) b3, Option.bind_some, f9]
  have hI1 : Inv m1 := Inv_s (s_X9_best u9) hI
  have hP1 : Po m1.1 c := by
    obtain ⟨p0, p1, p2, p3⟩ := hP
    exact ⟨p0, by rw [b2 28 3 (by omega) (by omega)]; exact p1, by rw [b2 58 34 (by omega) (by omega)]; exact p2, fun i hi => by
      rw [b2 29 i (by omega) (by omega), b2 30 i (by omega) (by omega), b2 31 i (by omega) (by omega), b2 77 i (by omega) (by omega), b2 78 i (by omega) (by omega), b2 79 i (by omega) (by omega)]
      exact p3 i hi⟩
  obtain ⟨m2, e1, e2, e3⟩ := ring10 (I := m1.1) (m := m1) hP1 d1 (by omega) (fun _ _ => rfl)
  have hQ : ∀ z, Qp m1.1 c d z = Qp m.1 c d z := fun z => funext fun a => funext fun b => by
    have : ∀ x y i, bp m1.1 x y i = bp m.1 x y i := fun x y i => by
      induction i with
      | zero => rfl
      | succ i ih =>
        unfold bp
        rw [ih, b2 77 i (by omega) (by omega), b2 78 i (by omega) (by omega), b2 79 i (by omega) (by omega)]
    unfold Qp
    rw [this]
  have f10 : (fun y => cnt (m2.1 80) y (8 * d)) = fun y => rO (Qp m.1 c d y) (2 * d - 1) (2 * d + 1) := funext fun y => by rw [e3 y, hQ]
  have u10 : f_X10_best x1 (nI d) m1 = some ((bst (fun y => rO (Qp m.1 c d y) (2 * d - 1) (2 * d + 1)) x1 (2 ^ c)).1, m2) := by
    unfold f_X10_best
    rw [if_neg (fun z => (a10 m1 hP1.2.2.1).mp z g1), if_neg (fun z => (n10 _ _).mp z g2), e1, Option.bind_some, best10 hc (by omega) (by rw [e2 58 (by decide)]; exact hP1.2.2.1), Option.bind_some, f10]
  exact ⟨_, _, _, u9, u10, Inv_s (s_X10_best u10) hI1⟩
