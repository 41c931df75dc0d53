/-! PURE: nearest, close -/
theorem Fr_tr {I I' I'' : Nat → Nat → Int32} (h : Fr I I') (h2 : ∀ k j, ¬ (k = 3 ∧ 3 ≤ j) → I'' k j = I' k j) : Fr I I'' := fun q h62 h3 => by
  rw [← h q h62 h3]
  exact funext fun j => h2 q j (fun z => h3 z.1)
theorem sq9 {I : Nat → Nat → Int32} {p c n t : Nat} {J : Nat → Nat → Int64} (hA : ∀ z, z < n → At9 I p c z t J) : ∀ x y, x < n → y < n → (J (5 + 2 * x) 5 - J (5 + 2 * y) 5) * (J (5 + 2 * x) 5 - J (5 + 2 * y) 5) + (J (5 + 2 * x) 6 - J (5 + 2 * y) 6) * (J (5 + 2 * x) 6 - J (5 + 2 * y) 6) = sqI I p c t x y := by
  intro x y hx hy
  rw [(hA x hx).1, (hA x hx).2, (hA y hy).1, (hA y hy).2]
  rfl
theorem sq10 {I : Nat → Nat → Int32} {p c n t : Nat} {J : Nat → Nat → Int64} (hA : ∀ z, z < n → At10 I p c z t J) : ∀ x y, x < n → y < n → (J 70 x - J 70 y) * (J 70 x - J 70 y) + (J 71 x - J 71 y) * (J 71 x - J 71 y) = sqI I p c t x y := by
  intro x y hx hy
  rw [(hA x hx).1, (hA x hx).2, (hA y hy).1, (hA y hy).2]
  rfl
/-- what the class has found before minute t, as the reference holds it -/
def nf (I : Nat → Nat → Int32) (p c n : Nat) : Nat → Z10
  | 0 => (-1, 0, 0, 0)
  | t + 1 => o10 (sqI I p c t) (nI t) n n (nf I p c n t)
theorem near9_l {I : Nat → Nat → Int32} {p c n T : Nat} {m : q_Mm} (hn : n ≤ 9) (h2 : 2 ≤ n) (hF : Fr I m.1) (e : m.1 3 1 = nI n) (hP : Pl I p c) (hS : ∀ z, z < n → Sp I z) (hB : ∀ z, z < n → Bd I z) (hT : T ≤ 600) (hA : ∀ z, z < n → At9 I p c z 0 m.2) (h35 : m.2 3 5 = 4611686018427387904) : ∃ m', l_X0_findNearest_14 7000 (46 + 3 * p) (nI T) 0 m = some m' ∧ m'.2 3 5 = (nf I p c n (T + 1)).1 ∧ m'.1 3 6 = (nf I p c n (T + 1)).2.1 ∧ m'.1 3 7 = (nf I p c n (T + 1)).2.2.1 ∧ m'.1 3 8 = (nf I p c n (T + 1)).2.2.2 ∧ Fr I m'.1 := by
  obtain ⟨m', q, b1, b2, b3, b4, b5⟩ := qlp7 (fun f i (s : q_Mm) => l_X0_findNearest_14 f (46 + 3 * p) (nI T) (nI i) s) (T + 1) 0 m (fun i s => Fr I s.1 ∧ s.1 3 1 = nI n ∧ (∀ z, z < n → At9 I p c z i s.2) ∧ Lz (s.2 3 5) (nf I p c n i) ∧ (0 < i → s.2 3 5 = (nf I p c n i).1 ∧ s.1 3 6 = (nf I p c n i).2.1 ∧ s.1 3 7 = (nf I p c n i).2.2.1 ∧ s.1 3 8 = (nf I p c n i).2.2.2)) (fun s => s) (by omega) (by omega) ⟨hF, e, hA, Or.inl ⟨(by decide : (-1 : Int64) < 0), h35⟩, fun h => absurd h (by omega)⟩
    (fun f s hs => by
      show l_X0_findNearest_14 (f + 1) _ _ _ _ = _
      unfold l_X0_findNearest_14
      rw [if_pos (by rw [r_lt, r_nI (by omega), r_nI (by omega)]; omega)])
    (fun f i s hi hs => by
      obtain ⟨c1, c2, c3, c4, c5⟩ := hs
      obtain ⟨s1, a1, a2, a3, a4, a5⟩ := pair9 hn c2 (sq9 c3)
      have hin : ∀ x y, x < n → y < n → 0 ≤ (sqI I p c i x y).toInt ∧ (sqI I p c i x y).toInt < 4000000000000000000 := fun x y hx hy => sqI_in hP (hS x hx) (hS y hy) (hB x hx) (hB y hy) (by omega)
      have rn := Rn_o (u := (4611686018427387904, s.1 3 3, s.1 3 4)) (v := nf I p c n i) (t := nI i) c4 hin (show (0 : Int) ≤ (4611686018427387904 : Int64).toInt by decide) (by
        unfold Rn
        rw [if_neg (show ¬ (4611686018427387904 : Int64) < s.2 3 5 by
          rw [r_ltL, MAXi]
          have := Lz_le c4
          omega)]) n (Nat.le_refl _)
      have ol := o9_le (q := sqI I p c i) (u := (4611686018427387904, s.1 3 3, s.1 3 4)) h2 (n - 1)
      rw [show n - 1 + 1 = n by omega] at ol
      have h01 := hin 0 1 (by omega) (by omega)
      have pe : nf I p c n (i + 1) = o10 (sqI I p c i) (nI i) n n (nf I p c n i) := rfl
      rw [← pe] at rn
      generalize o9 (sqI I p c i) n n (4611686018427387904, s.1 3 3, s.1 3 4) = u at a1 a3 a4 rn ol
      obtain ⟨rn, ub⟩ := rn
      have hF1 : Fr I s1.1 := Fr_tr c1 (fun k j h => a5 k j (by omega))
      have e1 : s1.1 3 1 = nI n := by rw [a5 3 1 (by omega)]; exact c2
      have mvl : ∀ z : q_Mm, z.1 3 1 = nI n → Fr I z.1 → (∀ x, x < n → At9 I p c x i z.2) → ∃ z', f_X0_moveAll (46 + 3 * p) (nI i) z = some z' ∧ z'.1 = z.1 ∧ z'.2 3 = z.2 3 ∧ ∀ x, x < n → At9 I p c x (i + 1) z'.2 := fun z h1 h2 h3 => moveAll9 hn h2 h1 hP hS (by omega) h3
      show ∃ s', l_X0_findNearest_14 (f + 1) _ _ _ s = l_X0_findNearest_14 f _ _ _ s' ∧ _
      by_cases hu : s1.2 3 5 ≤ u.1
      · obtain ⟨z', z1, z2, z3, z4⟩ := mvl s1 e1 hF1 (by rw [a2]; exact c3)
        have hv : nf I p c n (i + 1) = nf I p c n i := by
          unfold Rn at rn
          rw [rn, if_neg (by rw [r_leL, a2] at hu; rw [r_ltL]; omega)]
        refine ⟨z', ?_, by rw [z2]; exact hF1, by rw [z2]; exact e1, z4, ?_, fun _ => ?_⟩
        · conv => lhs; unfold l_X0_findNearest_14
          rw [if_neg (by rw [r_lt, r_nI (by omega), r_nI (by omega)]; omega), a1, Option.bind_some]
          dsimp only
          rw [if_pos hu, z1, Option.bind_some, nI_1]
        · rw [z3, a2, hv]
          exact c4
        · have hi0 : 0 < i := by
            rcases Nat.lt_or_ge 0 i with w | w
            · exact w
            · exfalso
              have hi00 : i = 0 := by omega
              subst hi00
              rw [a2, r_leL] at hu
              rcases c4 with ⟨k1, k2⟩ | ⟨k1, k2, _⟩
              · rw [k2, MAXi] at hu
                omega
              · exact absurd k1 (by show ¬ (0 : Int) ≤ (-1 : Int64).toInt; decide)
          rw [z3, z2, a2, hv, a5 3 6 (by omega), a5 3 7 (by omega), a5 3 8 (by omega)]
          exact c5 hi0
      · have hv : nf I p c n (i + 1) = (u.1, nI i, u.2.1, u.2.2) := by
          unfold Rn at rn
          rw [rn, if_pos (by rw [r_leL, a2] at hu; rw [r_ltL]; omega)]
        obtain ⟨z', z1, z2, z3, z4⟩ := mvl (q_wi (q_wi (q_wi (q_wl s1 3 5 u.1) 3 6 (nI i)) 3 7 u.2.1) 3 8 u.2.2) (by
            rw [r_wi, if_neg (by omega), r_wi, if_neg (by omega), r_wi, if_neg (by omega)]; exact e1) (Fr_tr hF1 (fun k j h => by
            rw [r_wi, if_neg (by omega), r_wi, if_neg (by omega), r_wi, if_neg (by omega)]; rfl)) (fun x hx => by
            unfold At9
            rw [r_wi2, r_wi2, r_wi2, r_rowL (by omega), a2]
            exact c3 x hx)
        refine ⟨z', ?_, ?_, ?_, z4, ?_, fun _ => ?_⟩
        · conv => lhs; unfold l_X0_findNearest_14
          rw [if_neg (by rw [r_lt, r_nI (by omega), r_nI (by omega)]; omega), a1, Option.bind_some]
          dsimp only
          rw [if_neg hu]
          have x1 : (q_wi (q_wl s1 3 5 u.1) 3 6 (nI i)).1 3 3 = u.2.1 := by
            rw [r_wi, if_neg (by omega)]; exact a3
          have x2 : (q_wi (q_wi (q_wl s1 3 5 u.1) 3 6 (nI i)) 3 7 u.2.1).1 3 4 = u.2.2 := by
            rw [r_wi, if_neg (by omega), r_wi, if_neg (by omega)]; exact a4
          rw [x1, x2, z1, Option.bind_some, nI_1]
        · rw [z2]
          exact Fr_tr hF1 (fun k j h => by
            rw [r_wi, if_neg (by omega), r_wi, if_neg (by omega), r_wi, if_neg (by omega)]; rfl)
        · rw [z2, r_wi, if_neg (by omega), r_wi, if_neg (by omega), r_wi, if_neg (by omega)]
          exact e1
        · rw [z3, r_wi2, r_wi2, r_wi2, r_wl2, if_pos ⟨rfl, rfl⟩, hv]
          have lz := Lz_le c4
          rw [r_leL, a2] at hu
          exact Or.inr ⟨ub, rfl, by dsimp only; omega⟩
        · rw [z3, z2, hv]
          refine ⟨?_, ?_, ?_, ?_⟩
          · rw [r_wi2, r_wi2, r_wi2, r_wl2, if_pos ⟨rfl, rfl⟩]
          · rw [r_wi, if_neg (by omega), r_wi, if_neg (by omega), r_wi, if_pos ⟨rfl, rfl⟩]
          · rw [r_wi, if_neg (by omega), r_wi, if_pos ⟨rfl, rfl⟩]
          · rw [r_wi, if_pos ⟨rfl, rfl⟩])
  obtain ⟨d1, d2, d3, d4⟩ := b5 (by omega)
  exact ⟨m', q, d1, d2, d3, d4, b1⟩
theorem near10_l {I : Nat → Nat → Int32} {p c n T : Nat} {m : q_Mm} (x2 : Int32) (hn : n ≤ 9) (hI : Inv m) (hF : Fr I m.1) (e : m.1 58 11 = nI n) (hP : Pl I p c) (hS : ∀ z, z < n → Sp I z) (hT : T ≤ 600) (hA : ∀ z, z < n → At10 I p c z 0 m.2) : ∃ m', l_X10_nearest_60 7000 (nI T) x2 (-1) 0 0 0 0 m = some ((nf I p c n (T + 1)).1, (nf I p c n (T + 1)).2.1, (nf I p c n (T + 1)).2.2.1, (nf I p c n (T + 1)).2.2.2, m') := by
  obtain ⟨⟨v, m'⟩, q, b1, _⟩ := qlp7 (fun f i (s : Z10 × q_Mm) => l_X10_nearest_60 f (nI T) x2 s.1.1 s.1.2.1 s.1.2.2.1 s.1.2.2.2 (nI i) s.2) (T + 1) 0 ((-1, 0, 0, 0), m) (fun i s => s.1 = nf I p c n i ∧ (∀ q, ¬ q = 62 → s.2.1 q = m.1 q) ∧ ∀ z, z < n → At10 I p c z i s.2.2) (fun s => (s.1.1, s.1.2.1, s.1.2.2.1, s.1.2.2.2, s.2)) (by omega) (by omega) ⟨rfl, fun _ _ => rfl, hA⟩
    (fun f s hs => by
      show l_X10_nearest_60 (f + 1) _ _ _ _ _ _ _ _ = _
      unfold l_X10_nearest_60
      rw [if_pos (by rw [r_lt, r_nI (by omega), r_nI (by omega)]; omega)])
    (fun f i s hi hs => by
      obtain ⟨v, s⟩ := s
      obtain ⟨c1, c2, c3⟩ := hs
      dsimp only at c1 c2 c3
      have e1 : s.1 58 11 = nI n := by rw [c2 58 (by decide)]; exact e
      have hIs : Inv s := Inv_s (fun k j hk => by
        rw [c2 k (fun z => by subst z; rw [show sA 62 j = false from rfl] at hk; exact Bool.noConfusion hk)]) hI
      obtain ⟨s', d1, d2, d3⟩ := stepAll10 (t := i) hn hIs (fun q h1 h2 => by rw [c2 q h1, hF q h1 h2]) e1 hP hS (by omega) c3
      refine ⟨(o10 (sqI I p c i) (nI i) n n v, s'), ?_, by dsimp only; rw [c1]; rfl, fun q hq => by dsimp only; rw [d2 q hq, c2 q hq], d3⟩
      show l_X10_nearest_60 (f + 1) _ _ _ _ _ _ _ s = l_X10_nearest_60 f _ _ _ _ _ _ _ s'
      conv => lhs; unfold l_X10_nearest_60
      rw [if_neg (by rw [r_lt, r_nI (by omega), r_nI (by omega)]; omega), near10 hn e1 (sq10 c3) (nI T) x2 (nI i) v, Option.bind_some, d1, Option.bind_some, nI_1])
  dsimp only at b1 q
  rw [b1] at q
  exact ⟨m', q⟩
theorem Bd_of {m : q_Mm} {c : Nat} (e : m.1 58 11 = nI c) (hI : Inv m) {s : Nat} (hs : s < c) (hc : c ≤ 9) : Bd m.1 s := by
  obtain ⟨c', k, hc', hk, e1, e2, e3, e4, hr, hl, hb⟩ := hI.2.2.2.1
  have : c' = c := (nI_eq (by omega) (by omega)).mp (e2.symm.trans e)
  subst this
  obtain ⟨r1, r2, r3, r4, r5, r6, r7, r8, r9, r10, r11, r12⟩ := hr s hs
  exact ⟨r5, r6, r7, r8⟩
theorem ok_nearest : q_OK_nearest Inv := by
  intro x1 x2 m hI
  have a9 : ∀ (x : Int32) (m : q_Mm), f_X9_within x 0 600 m = 0 ↔ ¬ (0 ≤ x.toInt ∧ x.toInt ≤ 600) := fun x m => r_within
  have a10 : ∀ (x : Int32) (m : q_Mm), f_X10_in x.toInt64 0 600 m = 0 ↔ ¬ (0 ≤ x.toInt ∧ x.toInt ≤ 600) := fun x m => r_inn
  have n9 : ∀ (x : Int32) (m : q_Mm), f_X9_within x 0 3 m = 0 ↔ ¬ (0 ≤ x.toInt ∧ x.toInt ≤ 3) := fun x m => r_within
  have n10 : ∀ (x : Int32) (m : q_Mm), f_X10_in x.toInt64 0 3 m = 0 ↔ ¬ (0 ≤ x.toInt ∧ x.toInt ≤ 3) := fun x m => r_inn
  by_cases g1 : 0 ≤ x1.toInt ∧ x1.toInt ≤ 600
  case neg =>
    refine ⟨-1000000000002, m, m, ?_, ?_, hI⟩
    · unfold f_X9_nearest; rw [if_pos ((a9 _ _).mpr g1)]
    · unfold f_X10_nearest; rw [if_pos ((a10 _ _).mpr g1)]
  by_cases g2 : 0 ≤ x2.toInt ∧ x2.toInt ≤ 3
  case neg =>
    refine ⟨-1000000000002, m, m, ?_, ?_, hI⟩
    · unfold f_X9_nearest; rw [if_neg (fun z => (a9 _ _).mp z g1), if_pos ((n9 _ _).mpr g2)]
    · unfold f_X10_nearest; rw [if_neg (fun z => (a10 _ _).mp z g1), if_pos ((n10 _ _).mpr g2)]
  obtain ⟨n, k, hn, hk, e1, e2, e3, e4, hr, hl, hb⟩ := hI.2.2.2.1
  by_cases g3 : 2 ≤ n
  case neg =>
    refine ⟨-1000000000003, m, m, ?_, ?_, hI⟩
    · unfold f_X9_nearest; rw [if_neg (fun z => (a9 _ _).mp z g1), if_neg (fun z => (n9 _ _).mp z g2), e1, if_neg (show ¬ (2 : Int32) ≤ nI n from nI_ge (b := 2) (by omega) (by decide))]
    · unfold f_X10_nearest; rw [if_neg (fun z => (a10 _ _).mp z g1), if_neg (fun z => (n10 _ _).mp z g2), e2, if_neg (show ¬ (2 : Int32) ≤ nI n from nI_ge (b := 2) (by omega) (by decide))]
  obtain ⟨T, hT, rfl⟩ := r_of g1.1 (n := 601) (by omega) (by decide)
  obtain ⟨p, c, hP⟩ := Pl_of hI
  have hS : ∀ z, z < n → Sp m.1 z := fun z hz => Sp_of e2 hI hz hn
  have hB : ∀ z, z < n → Bd m.1 z := fun z hz => Bd_of e2 hI hz hn
  obtain ⟨m1, c1, c2, c3, c4⟩ := beginAll9 (I := m.1) (p := p) (c := c) (m := q_wl m 3 5 4611686018427387904) hn (fun _ _ _ => rfl) e1 hS
  obtain ⟨m2, d1, d2, d3, d4, d5, d6⟩ := near9_l (I := m.1) (p := p) (c := c) (n := n) (T := T) (m := m1) hn g3 (fun q _ _ => by rw [c2]; rfl) (by rw [c2]; exact e1) hP hS hB (by omega) c4 (by rw [c3, r_wl2, if_pos ⟨rfl, rfl⟩])
  have u9 : f_X9_nearest (nI T) x2 m = some (if x2 = 0 then (nf m.1 p c n (T + 1)).1 else if x2 = 1 then (nf m.1 p c n (T + 1)).2.1.toInt64 else if x2 = 2 then (nf m.1 p c n (T + 1)).2.2.1.toInt64 else (nf m.1 p c n (T + 1)).2.2.2.toInt64, m2) := by
    unfold f_X9_nearest
    rw [if_neg (fun z => (a9 _ _).mp z g1), if_neg (fun z => (n9 _ _).mp z g2), e1, if_pos (show (2 : Int32) ≤ nI n from nI_le (a := 2) g3 (by omega)), hP.2.2.1, if_pos (r_in hP.1 (by decide)), r_cl (by have := hP.1; omega)]
    have : f_X0_findNearest (46 + 3 * p) (nI T) m = some m2 := by
      unfold f_X0_findNearest
      rw [c1, Option.bind_some, d1, Option.bind_some]
    rw [this, Option.bind_some, d2, d3, d4, d5]
    split
    · rfl
    · split
      · rfl
      · split
        · rfl
        · rfl
  have z := s_X9_nearest u9
  have hI2 : Inv m2 := Inv_s z hI
  have e2' : m2.1 58 11 = nI n := by rw [d6 58 (by decide) (by decide)]; exact e2
  obtain ⟨m3, f1, f2, f3⟩ := begin10 (I := m.1) (p := p) (c := c) (n := n) hn d6 e2'
  obtain ⟨m4, h1⟩ := near10_l (I := m.1) (p := p) (c := c) (n := n) (T := T) (m := m3) x2 hn (Inv_1 f2 hI2) (by rw [f2]; exact d6) (by rw [f2]; exact e2') hP hS (by omega) f3
  have u10 : f_X10_nearest (nI T) x2 m2 = some (if x2 = 0 then (nf m.1 p c n (T + 1)).1 else if x2 = 1 then (nf m.1 p c n (T + 1)).2.1.toInt64 else if x2 = 2 then (nf m.1 p c n (T + 1)).2.2.1.toInt64 else (nf m.1 p c n (T + 1)).2.2.2.toInt64, m4) := by
    unfold f_X10_nearest
    rw [if_neg (fun z => (a10 _ _).mp z g1), if_neg (fun z => (n10 _ _).mp z g2), e2', if_pos (show (2 : Int32) ≤ nI n from nI_le (a := 2) g3 (by omega)), f1, Option.bind_some, h1, Option.bind_some]
    dsimp only
    split
    · rfl
    · split
      · rfl
      · split
        · rfl
        · rfl
  exact ⟨_, _, _, u9, u10, Inv_s (s_X10_nearest u10) hI2⟩
/-- minutes nearer than d -/
def mn (I : Nat → Nat → Int32) (p c n : Nat) (lim : Int64) : Nat → Int32
  | 0 => 0
  | t + 1 => if o11 (sqI I p c t) lim n n 0 = 0 then mn I p c n lim t else mn I p c n lim t + 1
theorem clos9_l {I : Nat → Nat → Int32} {p c n T : Nat} {m : q_Mm} {lim : Int64} (hl : lim.toInt ≤ 1000000000000) (hn : n ≤ 9) (hF : Fr I m.1) (e : m.1 3 1 = nI n) (hP : Pl I p c) (hS : ∀ z, z < n → Sp I z) (hT : T ≤ 600) (hA : ∀ z, z < n → At9 I p c z 0 m.2) : ∃ m', l_X0_minutesNearer_19 7000 (46 + 3 * p) (nI T) lim 0 0 m = some (mn I p c n lim (T + 1), m') ∧ Fr I m'.1 := by
  obtain ⟨⟨y, m'⟩, q, b0, b1, b2, b3⟩ := qlp7 (fun f i (s : Int32 × q_Mm) => l_X0_minutesNearer_19 f (46 + 3 * p) (nI T) lim s.1 (nI i) s.2) (T + 1) 0 (0, m) (fun i s => s.1 = mn I p c n lim i ∧ Fr I s.2.1 ∧ s.2.1 3 1 = nI n ∧ (∀ z, z < n → At9 I p c z i s.2.2)) (fun s => s) (by omega) (by omega) ⟨rfl, hF, e, hA⟩
    (fun f s hs => by
      show l_X0_minutesNearer_19 (f + 1) _ _ _ _ _ _ = _
      unfold l_X0_minutesNearer_19
      rw [if_pos (by rw [r_lt, r_nI (by omega), r_nI (by omega)]; omega)])
    (fun f i s hi hs => by
      obtain ⟨y, s⟩ := s
      obtain ⟨c0, c1, c2, c3⟩ := hs
      dsimp only at c0 c1 c2 c3
      obtain ⟨s1, a1, a2, a3, a4, a5⟩ := pair9 hn c2 (sq9 c3)
      have rc := Rc_o (lim := lim) (u := (4611686018427387904, s.1 3 3, s.1 3 4)) (v := 0) (q := sqI I p c i) (n := n) (by
        unfold Rc
        rw [if_neg (show ¬ (4611686018427387904 : Int64) < lim by rw [r_ltL, MAXi]; omega)]) n
      generalize o9 (sqI I p c i) n n (4611686018427387904, s.1 3 3, s.1 3 4) = u at a1 a3 a4 rc
      unfold Rc at rc
      have pe : mn I p c n lim (i + 1) = if o11 (sqI I p c i) lim n n 0 = 0 then mn I p c n lim i else mn I p c n lim i + 1 := rfl
      have hF1 : Fr I s1.1 := Fr_tr c1 (fun k j h => a5 k j (by omega))
      have e1 : s1.1 3 1 = nI n := by rw [a5 3 1 (by omega)]; exact c2
      obtain ⟨z', z1, z2, z3, z4⟩ := moveAll9 (t := i) hn hF1 e1 hP hS (by omega) (by rw [a2]; exact c3)
      refine ⟨(mn I p c n lim (i + 1), z'), ?_, rfl, by dsimp only; rw [z2]; exact hF1, by dsimp only; rw [z2]; exact e1, z4⟩
      show l_X0_minutesNearer_19 (f + 1) _ _ _ _ _ s = l_X0_minutesNearer_19 f _ _ _ _ _ z'
      conv => lhs; unfold l_X0_minutesNearer_19
      rw [if_neg (by rw [r_lt, r_nI (by omega), r_nI (by omega)]; omega), a1, Option.bind_some]
      dsimp only
      rw [z1, Option.bind_some, Option.bind_some, nI_1, pe, rc, c0]
      by_cases hu : lim ≤ u.1
      · rw [if_pos hu, if_neg (show ¬ u.1 < lim by rw [r_leL] at hu; rw [r_ltL]; omega), if_pos rfl]
      · rw [if_neg hu, if_pos (show u.1 < lim by rw [r_leL] at hu; rw [r_ltL]; omega), if_neg (by decide)])
  dsimp only at b0 b1 q
  rw [b0] at q
  exact ⟨m', q, b1⟩
theorem clos10_l {I : Nat → Nat → Int32} {p c n T : Nat} {m : q_Mm} (d : Int32) (hn : n ≤ 9) (hI : Inv m) (hF : Fr I m.1) (e : m.1 58 11 = nI n) (hP : Pl I p c) (hS : ∀ z, z < n → Sp I z) (hT : T ≤ 600) (hA : ∀ z, z < n → At10 I p c z 0 m.2) : ∃ m', l_X10_close_36 7000 (nI T) d 0 0 m = some (mn I p c n (d.toInt64 * d.toInt64) (T + 1), m') := by
  obtain ⟨⟨v, m'⟩, q, b1, _⟩ := qlp7 (fun f i (s : Int32 × q_Mm) => l_X10_close_36 f (nI T) d s.1 (nI i) s.2) (T + 1) 0 (0, m) (fun i s => s.1 = mn I p c n (d.toInt64 * d.toInt64) i ∧ (∀ q, ¬ q = 62 → s.2.1 q = m.1 q) ∧ ∀ z, z < n → At10 I p c z i s.2.2) (fun s => s) (by omega) (by omega) ⟨rfl, fun _ _ => rfl, hA⟩
    (fun f s hs => by
      show l_X10_close_36 (f + 1) _ _ _ _ _ = _
      unfold l_X10_close_36
      rw [if_pos (by rw [r_lt, r_nI (by omega), r_nI (by omega)]; omega)])
    (fun f i s hi hs => by
      obtain ⟨v, s⟩ := s
      obtain ⟨c1, c2, c3⟩ := hs
      dsimp only at c1 c2 c3
      have e1 : s.1 58 11 = nI n := by rw [c2 58 (by decide)]; exact e
      have hIs : Inv s := Inv_s (fun k j hk => by
        rw [c2 k (fun z => by subst z; rw [show sA 62 j = false from rfl] at hk; exact Bool.noConfusion hk)]) hI
      obtain ⟨s', d1, d2, d3⟩ := stepAll10 (t := i) hn hIs (fun q h1 h2 => by rw [c2 q h1, hF q h1 h2]) e1 hP hS (by omega) c3
      have pe : mn I p c n (d.toInt64 * d.toInt64) (i + 1) = if o11 (sqI I p c i) (d.toInt64 * d.toInt64) n n 0 = 0 then mn I p c n (d.toInt64 * d.toInt64) i else mn I p c n (d.toInt64 * d.toInt64) i + 1 := rfl
      refine ⟨(mn I p c n (d.toInt64 * d.toInt64) (i + 1), s'), ?_, rfl, fun q hq => by dsimp only; rw [d2 q hq, c2 q hq], d3⟩
      show l_X10_close_36 (f + 1) _ _ _ _ s = l_X10_close_36 f _ _ _ _ s'
      conv => lhs; unfold l_X10_close_36
      rw [if_neg (by rw [r_lt, r_nI (by omega), r_nI (by omega)]; omega), clos10 hn e1 (sq10 c3), Option.bind_some, d1, Option.bind_some, Option.bind_some, nI_1, pe, c1, Int32.add_zero]
      split
      · rfl
      · rfl)
  dsimp only at b1 q
  rw [b1] at q
  exact ⟨m', q⟩
theorem ok_close : q_OK_close Inv := by
  intro x1 x2 m hI
  have a9 : ∀ (x : Int32) (m : q_Mm), f_X9_within x 0 600 m = 0 ↔ ¬ (0 ≤ x.toInt ∧ x.toInt ≤ 600) := fun x m => r_within
  have a10 : ∀ (x : Int32) (m : q_Mm), f_X10_in x.toInt64 0 600 m = 0 ↔ ¬ (0 ≤ x.toInt ∧ x.toInt ≤ 600) := fun x m => r_inn
  have n9 : ∀ (x : Int32) (m : q_Mm), f_X9_within x 0 1000000 m = 0 ↔ ¬ (0 ≤ x.toInt ∧ x.toInt ≤ 1000000) := fun x m => r_within
  have n10 : ∀ (x : Int32) (m : q_Mm), f_X10_in x.toInt64 0 1000000 m = 0 ↔ ¬ (0 ≤ x.toInt ∧ x.toInt ≤ 1000000) := fun x m => r_inn
  by_cases g1 : 0 ≤ x1.toInt ∧ x1.toInt ≤ 600
  case neg =>
    refine ⟨-2, m, m, ?_, ?_, hI⟩
    · unfold f_X9_close; rw [if_pos ((a9 _ _).mpr g1)]
    · unfold f_X10_close; rw [if_pos ((a10 _ _).mpr g1)]
  by_cases g2 : 0 ≤ x2.toInt ∧ x2.toInt ≤ 1000000
  case neg =>
    refine ⟨-2, m, m, ?_, ?_, hI⟩
    · unfold f_X9_close; rw [if_neg (fun z => (a9 _ _).mp z g1), if_pos ((n9 _ _).mpr g2)]
    · unfold f_X10_close; rw [if_neg (fun z => (a10 _ _).mp z g1), if_pos ((n10 _ _).mpr g2)]
  obtain ⟨n, k, hn, hk, e1, e2, e3, e4, hr, hl, hb⟩ := hI.2.2.2.1
  obtain ⟨T, hT, rfl⟩ := r_of g1.1 (n := 601) (by omega) (by decide)
  obtain ⟨p, c, hP⟩ := Pl_of hI
  have hS : ∀ z, z < n → Sp m.1 z := fun z hz => Sp_of e2 hI hz hn
  have hlim : (x2.toInt64 * x2.toInt64).toInt ≤ 1000000000000 := by
    have h0 : -((1000000 : Nat) : Int) ≤ x2.toInt64.toInt ∧ x2.toInt64.toInt ≤ ((1000000 : Nat) : Int) := by rw [r_64]; omega
    rw [mulL h0 h0 (by decide)]
    have := absmul h0 h0
    omega
  obtain ⟨m1, c1, c2, c3, c4⟩ := beginAll9 (I := m.1) (p := p) (c := c) (m := m) hn (fun _ _ _ => rfl) e1 hS
  obtain ⟨m2, d1, d6⟩ := clos9_l (I := m.1) (p := p) (c := c) (n := n) (T := T) (m := m1) hlim hn (fun q _ _ => by rw [c2]) (by rw [c2]; exact e1) hP hS (by omega) c4
  have u9 : f_X9_close (nI T) x2 m = some (mn m.1 p c n (x2.toInt64 * x2.toInt64) (T + 1), m2) := by
    unfold f_X9_close
    rw [if_neg (fun z => (a9 _ _).mp z g1), if_neg (fun z => (n9 _ _).mp z g2), hP.2.2.1, if_pos (r_in hP.1 (by decide)), r_cl (by have := hP.1; omega)]
    have : f_X0_minutesNearer (46 + 3 * p) (nI T) x2 m = some (mn m.1 p c n (x2.toInt64 * x2.toInt64) (T + 1), m2) := by
      unfold f_X0_minutesNearer
      rw [c1, Option.bind_some, d1, Option.bind_some]
    rw [this, Option.bind_some]
  have z := s_X9_close u9
  have hI2 : Inv m2 := Inv_s z hI
  have e2' : m2.1 58 11 = nI n := by rw [d6 58 (by decide) (by decide)]; exact e2
  obtain ⟨m3, f1, f2, f3⟩ := begin10 (I := m.1) (p := p) (c := c) (n := n) hn d6 e2'
  obtain ⟨m4, h1⟩ := clos10_l (I := m.1) (p := p) (c := c) (n := n) (T := T) (m := m3) x2 hn (Inv_1 f2 hI2) (by rw [f2]; exact d6) (by rw [f2]; exact e2') hP hS (by omega) f3
  have u10 : f_X10_close (nI T) x2 m2 = some (mn m.1 p c n (x2.toInt64 * x2.toInt64) (T + 1), m4) := by
    unfold f_X10_close
    rw [if_neg (fun z => (a10 _ _).mp z g1), if_neg (fun z => (n10 _ _).mp z g2), f1, Option.bind_some, h1, Option.bind_some]
  exact ⟨_, _, _, u9, u10, Inv_s (s_X10_close u10) hI2⟩
