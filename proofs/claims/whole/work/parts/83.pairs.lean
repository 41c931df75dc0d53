/-! PURE: squares of distances -/
theorem absmul {x y : Int} {a b : Nat} (hx : -(a : Int) ≤ x ∧ x ≤ a) (hy : -(b : Int) ≤ y ∧ y ≤ b) : -((a * b : Nat) : Int) ≤ x * y ∧ x * y ≤ ((a * b : Nat) : Int) := by
  have h1 : x.natAbs ≤ a := by omega
  have h2 : y.natAbs ≤ b := by omega
  have h3 := Nat.mul_le_mul h1 h2
  rw [← Int.natAbs_mul] at h3
  omega
theorem mulL {x y : Int64} {a b : Nat} (hx : -(a : Int) ≤ x.toInt ∧ x.toInt ≤ a) (hy : -(b : Int) ≤ y.toInt ∧ y.toInt ≤ b) (h : a * b < 2 ^ 63) : (x * y).toInt = x.toInt * y.toInt := by
  have := absmul hx hy
  rw [Int64.toInt_mul, Int.bmod_eq_of_le (by omega) (by omega)]
theorem addL {x y : Int64} (h : -9223372036854775808 ≤ x.toInt + y.toInt ∧ x.toInt + y.toInt < 9223372036854775808) : (x + y).toInt = x.toInt + y.toInt := by
  rw [Int64.toInt_add, Int.bmod_eq_of_le (by omega) (by omega)]
theorem subL {x y : Int64} (h : -9223372036854775808 ≤ x.toInt - y.toInt ∧ x.toInt - y.toInt < 9223372036854775808) : (x - y).toInt = x.toInt - y.toInt := by
  rw [Int64.toInt_sub, Int.bmod_eq_of_le (by omega) (by omega)]
/-- ship s starts within the field -/
def Bd (I : Nat → Nat → Int32) (s : Nat) : Prop := -100000 ≤ (I 63 s).toInt ∧ (I 63 s).toInt ≤ 100000 ∧ -100000 ≤ (I 64 s).toInt ∧ (I 64 s).toInt ≤ 100000
theorem ps_in {I : Nat → Nat → Int32} {p c s : Nat} (h : Pl I p c) (hs : Sp I s) (hb : Bd I s) : ∀ t : Nat, t ≤ 1000 → (-100000 - 20000 * (t : Int) ≤ (psX I p c s t).toInt ∧ (psX I p c s t).toInt ≤ 100000 + 20000 * (t : Int)) ∧ (-100000 - 20000 * (t : Int) ≤ (psY I p c s t).toInt ∧ (psY I p c s t).toInt ≤ 100000 + 20000 * (t : Int)) := by
  obtain ⟨s0, s1, s2, s3, s4, s5, s6, s7, s8⟩ := hs
  obtain ⟨b1, b2, b3, b4⟩ := hb
  intro t
  induction t with
  | zero =>
    intro _
    show (_ ≤ (I 63 s).toInt64.toInt ∧ (I 63 s).toInt64.toInt ≤ _) ∧ (_ ≤ (I 64 s).toInt64.toInt ∧ (I 64 s).toInt64.toInt ≤ _)
    rw [r_64, r_64]
    omega
  | succ t ih =>
    intro ht
    have h0 := ih (by omega)
    have hin := cr9_in (s := s) (t := t) h
    have hx := vX_in hin
    have hy := vY_in hin
    have m1 : ((vX (cr9 I p c s t)).toInt64 * (I 65 s).toInt64).toInt = (vX (cr9 I p c s t)).toInt * (I 65 s).toInt := by
      rw [mulL (a := 1000) (b := 20) (by rw [r_64]; omega) (by rw [r_64]; omega) (by decide), r_64, r_64]
    have m2 : ((vY (cr9 I p c s t)).toInt64 * (I 65 s).toInt64).toInt = (vY (cr9 I p c s t)).toInt * (I 65 s).toInt := by
      rw [mulL (a := 1000) (b := 20) (by rw [r_64]; omega) (by rw [r_64]; omega) (by decide), r_64, r_64]
    have a1 := absmul (x := (vX (cr9 I p c s t)).toInt) (y := (I 65 s).toInt) (a := 1000) (b := 20) (by omega) (by omega)
    have a2 := absmul (x := (vY (cr9 I p c s t)).toInt) (y := (I 65 s).toInt) (a := 1000) (b := 20) (by omega) (by omega)
    have e1 : psX I p c s (t + 1) = psX I p c s t + (vX (cr9 I p c s t)).toInt64 * (I 65 s).toInt64 := rfl
    have e2 : psY I p c s (t + 1) = psY I p c s t + (vY (cr9 I p c s t)).toInt64 * (I 65 s).toInt64 := rfl
    rw [e1, e2, addL (by rw [m1]; omega), addL (by rw [m2]; omega), m1, m2]
    omega
def sqI (I : Nat → Nat → Int32) (p c t a b : Nat) : Int64 := (psX I p c a t - psX I p c b t) * (psX I p c a t - psX I p c b t) + (psY I p c a t - psY I p c b t) * (psY I p c a t - psY I p c b t)
theorem sqI_in {I : Nat → Nat → Int32} {p c t a b : Nat} (h : Pl I p c) (ha : Sp I a) (hb : Sp I b) (ba : Bd I a) (bb : Bd I b) (ht : t ≤ 600) : 0 ≤ (sqI I p c t a b).toInt ∧ (sqI I p c t a b).toInt < 4000000000000000000 := by
  have p1 := ps_in h ha ba t (by omega)
  have p2 := ps_in h hb bb t (by omega)
  have x1 : (psX I p c a t - psX I p c b t).toInt = (psX I p c a t).toInt - (psX I p c b t).toInt := subL (by omega)
  have x2 : (psY I p c a t - psY I p c b t).toInt = (psY I p c a t).toInt - (psY I p c b t).toInt := subL (by omega)
  have y1 : -((24200000 : Nat) : Int) ≤ (psX I p c a t - psX I p c b t).toInt ∧ (psX I p c a t - psX I p c b t).toInt ≤ ((24200000 : Nat) : Int) := by rw [x1]; omega
  have y2 : -((24200000 : Nat) : Int) ≤ (psY I p c a t - psY I p c b t).toInt ∧ (psY I p c a t - psY I p c b t).toInt ≤ ((24200000 : Nat) : Int) := by rw [x2]; omega
  have m1 := mulL y1 y1 (by decide)
  have m2 := mulL y2 y2 (by decide)
  have a1 := absmul y1 y1
  have a2 := absmul y2 y2
  have z1 : 0 ≤ (psX I p c a t - psX I p c b t).toInt * (psX I p c a t - psX I p c b t).toInt := by
    rcases Int.le_total 0 (psX I p c a t - psX I p c b t).toInt with q | q
    · exact Int.mul_nonneg q q
    · exact Int.mul_nonneg_of_nonpos_of_nonpos q q
  have z2 : 0 ≤ (psY I p c a t - psY I p c b t).toInt * (psY I p c a t - psY I p c b t).toInt := by
    rcases Int.le_total 0 (psY I p c a t - psY I p c b t).toInt with q | q
    · exact Int.mul_nonneg q q
    · exact Int.mul_nonneg_of_nonpos_of_nonpos q q
  unfold sqI
  rw [addL (by rw [m1, m2]; omega), m1, m2]
  omega
/-! the fold over pairs, in both programs -/
abbrev Z9 : Type := Int64 × Int32 × Int32
abbrev Z10 : Type := Int64 × Int32 × Int32 × Int32
def s9 (q : Nat → Nat → Int64) (a b : Nat) (z : Z9) : Z9 := if z.1 ≤ q a b then z else (q a b, nI a, nI b)
def i9 (q : Nat → Nat → Int64) (a : Nat) : Nat → Z9 → Z9
  | 0, z => z
  | k + 1, z => s9 q a (a + 1 + k) (i9 q a k z)
def o9 (q : Nat → Nat → Int64) (n : Nat) : Nat → Z9 → Z9
  | 0, z => z
  | a + 1, z => i9 q a (n - 1 - a) (o9 q n a z)
def s10 (q : Nat → Nat → Int64) (t : Int32) (a b : Nat) (z : Z10) : Z10 := if z.1 < 0 then (q a b, t, nI a, nI b) else if z.1 ≤ q a b then z else (q a b, t, nI a, nI b)
def i10 (q : Nat → Nat → Int64) (t : Int32) (a : Nat) : Nat → Z10 → Z10
  | 0, z => z
  | k + 1, z => s10 q t a (a + 1 + k) (i10 q t a k z)
def o10 (q : Nat → Nat → Int64) (t : Int32) (n : Nat) : Nat → Z10 → Z10
  | 0, z => z
  | a + 1, z => i10 q t a (n - 1 - a) (o10 q t n a z)
def s11 (q : Nat → Nat → Int64) (lim : Int64) (a b : Nat) (z : Int32) : Int32 := if z = 0 then if lim ≤ q a b then 0 else 1 else 1
def i11 (q : Nat → Nat → Int64) (lim : Int64) (a : Nat) : Nat → Int32 → Int32
  | 0, z => z
  | k + 1, z => s11 q lim a (a + 1 + k) (i11 q lim a k z)
def o11 (q : Nat → Nat → Int64) (lim : Int64) (n : Nat) : Nat → Int32 → Int32
  | 0, z => z
  | a + 1, z => i11 q lim a (n - 1 - a) (o11 q lim n a z)
/-- class: pairs of ship a -/
theorem pair_i {n a : Nat} (ha : a < n) (hn : n ≤ 9) {q : Nat → Nat → Int64} {m : q_Mm} (e : m.1 3 1 = nI n) (hq : ∀ x y, x < n → y < n → (m.2 (5 + 2 * x) 5 - m.2 (5 + 2 * y) 5) * (m.2 (5 + 2 * x) 5 - m.2 (5 + 2 * y) 5) + (m.2 (5 + 2 * x) 6 - m.2 (5 + 2 * y) 6) * (m.2 (5 + 2 * x) 6 - m.2 (5 + 2 * y) 6) = q x y) (z : Z9) (h3 : m.1 3 3 = z.2.1) (h4 : m.1 3 4 = z.2.2) : ∃ s', l_X0_squareOfPair_19 7000 z.1 (nI a) (nI (a + 1)) m = some ((i9 q a (n - 1 - a) z).1, s') ∧ s'.2 = m.2 ∧ s'.1 3 3 = (i9 q a (n - 1 - a) z).2.1 ∧ s'.1 3 4 = (i9 q a (n - 1 - a) z).2.2 ∧ ∀ k j, ¬ (k = 3 ∧ (j = 3 ∨ j = 4)) → s'.1 k j = m.1 k j := by
  obtain ⟨⟨y, s'⟩, r, b1, b2, b3, b4, b5⟩ := qlp7 (fun f i (s : Int64 × q_Mm) => l_X0_squareOfPair_19 f s.1 (nI a) (nI (a + 1 + i)) s.2) (n - 1 - a) 0 (z.1, m) (fun i s => s.1 = (i9 q a i z).1 ∧ s.2.2 = m.2 ∧ s.2.1 3 3 = (i9 q a i z).2.1 ∧ s.2.1 3 4 = (i9 q a i z).2.2 ∧ ∀ k j, ¬ (k = 3 ∧ (j = 3 ∨ j = 4)) → s.2.1 k j = m.1 k j) (fun s => s) (by omega) (by omega) ⟨rfl, rfl, h3, h4, fun _ _ _ => rfl⟩
    (fun f s hs => by
      show l_X0_squareOfPair_19 (f + 1) _ _ _ _ = _
      unfold l_X0_squareOfPair_19
      rw [hs.2.2.2.2 3 1 (by omega), e, if_pos (nI_le (by omega) (by omega))])
    (fun f i s hi hs => by
      obtain ⟨y, s⟩ := s
      obtain ⟨c1, c2, c3, c4, c5⟩ := hs
      dsimp only at c1 c2 c3 c4 c5
      have pe : i9 q a (i + 1) z = if (i9 q a i z).1 ≤ q a (a + 1 + i) then i9 q a i z else (q a (a + 1 + i), nI a, nI (a + 1 + i)) := rfl
      have ib : a + 1 + i < 9 := by omega
      show ∃ s', l_X0_squareOfPair_19 (f + 1) y _ _ s = l_X0_squareOfPair_19 f (Prod.fst s') _ _ (Prod.snd s') ∧ _
      have un : l_X0_squareOfPair_19 (f + 1) y (nI a) (nI (a + 1 + i)) s = if (i9 q a i z).1 ≤ q a (a + 1 + i) then l_X0_squareOfPair_19 f y (nI a) (nI (a + 1 + (i + 1))) s else l_X0_squareOfPair_19 f (q a (a + 1 + i)) (nI a) (nI (a + 1 + (i + 1))) (q_wi (q_wi s 3 3 (nI a)) 3 4 (nI (a + 1 + i))) := by
        conv => lhs; unfold l_X0_squareOfPair_19
        unfold f_X9_squareOf
        rw [c5 3 1 (by omega), e, if_neg (nI_ge (by omega) (by omega)), if_pos (r_in (show a < 9 by omega) (by decide)), if_pos (r_in ib (by decide)), if_pos (r_in (show a < 9 by omega) (by decide)), if_pos (r_in ib (by decide)), r_cl (show a < 2 ^ 31 by omega), r_cl (show a + 1 + i < 2 ^ 31 by omega), c2, hq a (a + 1 + i) ha (by omega), nI_1, c1]
        rfl
      rw [un, pe]
      split
      · exact ⟨(y, s), rfl, c1, c2, c3, c4, c5⟩
      · exact ⟨(q a (a + 1 + i), q_wi (q_wi s 3 3 (nI a)) 3 4 (nI (a + 1 + i))), rfl, rfl, c2, by
          show (q_wi (q_wi s 3 3 (nI a)) 3 4 (nI (a + 1 + i))).1 3 3 = nI a
          rw [r_wi, if_neg (by omega), r_wi, if_pos ⟨rfl, rfl⟩], by
          show (q_wi (q_wi s 3 3 (nI a)) 3 4 (nI (a + 1 + i))).1 3 4 = nI (a + 1 + i)
          rw [r_wi, if_pos ⟨rfl, rfl⟩], fun k j h => by
          show (q_wi (q_wi s 3 3 (nI a)) 3 4 (nI (a + 1 + i))).1 k j = m.1 k j
          rw [r_wi, if_neg (by omega), r_wi, if_neg (by omega)]
          exact c5 k j h⟩)
  dsimp only at b1 b2 b3 b4 b5
  refine ⟨s', ?_, b2, b3, b4, b5⟩
  rw [← b1]
  exact r
theorem pair9 {n : Nat} (hn : n ≤ 9) {q : Nat → Nat → Int64} {m : q_Mm} (e : m.1 3 1 = nI n) (hq : ∀ x y, x < n → y < n → (m.2 (5 + 2 * x) 5 - m.2 (5 + 2 * y) 5) * (m.2 (5 + 2 * x) 5 - m.2 (5 + 2 * y) 5) + (m.2 (5 + 2 * x) 6 - m.2 (5 + 2 * y) 6) * (m.2 (5 + 2 * x) 6 - m.2 (5 + 2 * y) 6) = q x y) : ∃ s', f_X0_squareOfPair m = some ((o9 q n n (4611686018427387904, m.1 3 3, m.1 3 4)).1, s') ∧ s'.2 = m.2 ∧ s'.1 3 3 = (o9 q n n (4611686018427387904, m.1 3 3, m.1 3 4)).2.1 ∧ s'.1 3 4 = (o9 q n n (4611686018427387904, m.1 3 3, m.1 3 4)).2.2 ∧ ∀ k j, ¬ (k = 3 ∧ (j = 3 ∨ j = 4)) → s'.1 k j = m.1 k j := by
  obtain ⟨⟨y, s'⟩, r, b1, b2, b3, b4, b5⟩ := qlp7 (fun f i (s : Int64 × q_Mm) => l_X0_squareOfPair_6 f s.1 (nI i) s.2) n 0 (4611686018427387904, m) (fun i s => s.1 = (o9 q n i (4611686018427387904, m.1 3 3, m.1 3 4)).1 ∧ s.2.2 = m.2 ∧ s.2.1 3 3 = (o9 q n i (4611686018427387904, m.1 3 3, m.1 3 4)).2.1 ∧ s.2.1 3 4 = (o9 q n i (4611686018427387904, m.1 3 3, m.1 3 4)).2.2 ∧ ∀ k j, ¬ (k = 3 ∧ (j = 3 ∨ j = 4)) → s.2.1 k j = m.1 k j) (fun s => s) (by omega) (by omega) ⟨rfl, rfl, rfl, rfl, fun _ _ _ => rfl⟩
    (fun f s hs => by
      show l_X0_squareOfPair_6 (f + 1) _ _ _ = _
      unfold l_X0_squareOfPair_6
      rw [hs.2.2.2.2 3 1 (by omega), e, if_pos (nI_le (by omega) (by omega))])
    (fun f i s hi hs => by
      obtain ⟨y, s⟩ := s
      obtain ⟨c1, c2, c3, c4, c5⟩ := hs
      dsimp only at c1 c2 c3 c4 c5
      obtain ⟨s', a1, a2, a3, a4, a5⟩ := pair_i (a := i) hi hn (q := q) (m := s) (by rw [c5 3 1 (by omega)]; exact e) (by rw [c2]; exact hq) _ c3 c4
      refine ⟨(_, s'), ?_, rfl, by rw [← c2]; exact a2, a3, a4, fun k j h => by rw [← c5 k j h]; exact a5 k j h⟩
      show l_X0_squareOfPair_6 (f + 1) y _ s = l_X0_squareOfPair_6 f _ _ s'
      conv => lhs; unfold l_X0_squareOfPair_6
      rw [c5 3 1 (by omega), e, if_neg (nI_ge hi (by omega)), nI_1, c1, a1, Option.bind_some]
      rfl)
  dsimp only at b1 b2 b3 b4 b5
  refine ⟨s', ?_, b2, b3, b4, b5⟩
  unfold f_X0_squareOfPair
  rw [show l_X0_squareOfPair_6 7000 4611686018427387904 0 m = some (y, s') from r, Option.bind_some, b1]
theorem apart10 {n a b : Nat} (hn : n ≤ 9) (ha : a < n) (hb : b < n) {q : Nat → Nat → Int64} {m : q_Mm} (hq : ∀ x y, x < n → y < n → (m.2 70 x - m.2 70 y) * (m.2 70 x - m.2 70 y) + (m.2 71 x - m.2 71 y) * (m.2 71 x - m.2 71 y) = q x y) : f_X10_apartOf (nI a) (nI b) m = some (q a b) := by
  unfold f_X10_apartOf
  rw [if_pos (r_in (show a < 9 by omega) (by decide)), if_pos (r_in (show b < 9 by omega) (by decide)), if_pos (r_in (show a < 9 by omega) (by decide)), if_pos (r_in (show b < 9 by omega) (by decide)), r_cl (show a < 2 ^ 31 by omega), r_cl (show b < 2 ^ 31 by omega), hq a b ha hb]
theorem near_i {n a : Nat} (ha : a < n) (hn : n ≤ 9) {q : Nat → Nat → Int64} {m : q_Mm} (e : m.1 58 11 = nI n) (hq : ∀ x y, x < n → y < n → (m.2 70 x - m.2 70 y) * (m.2 70 x - m.2 70 y) + (m.2 71 x - m.2 71 y) * (m.2 71 x - m.2 71 y) = q x y) (y1 y2 t : Int32) (z : Z10) : l_X10_nearest_84 7000 y1 y2 z.1 z.2.1 z.2.2.1 z.2.2.2 t (nI a) (nI (a + 1)) m = some (i10 q t a (n - 1 - a) z) :=
  qlp7g (fun f i (s : Z10) => l_X10_nearest_84 f y1 y2 s.1 s.2.1 s.2.2.1 s.2.2.2 t (nI a) (nI (a + 1 + i)) m) (n - 1 - a) 0 (fun i => i10 q t a i z) (fun s => s) (by omega) (by omega)
    (fun f => by
      show l_X10_nearest_84 (f + 1) _ _ _ _ _ _ _ _ _ _ = _
      unfold l_X10_nearest_84
      rw [e, if_pos (nI_le (by omega) (by omega))])
    (fun f i _ hi => by
      show l_X10_nearest_84 (f + 1) _ _ _ _ _ _ _ _ _ _ = l_X10_nearest_84 f _ _ _ _ _ _ _ _ _ _
      have pe : i10 q t a (i + 1) z = if (i10 q t a i z).1 < 0 then (q a (a + 1 + i), t, nI a, nI (a + 1 + i)) else if (i10 q t a i z).1 ≤ q a (a + 1 + i) then i10 q t a i z else (q a (a + 1 + i), t, nI a, nI (a + 1 + i)) := rfl
      conv => lhs; unfold l_X10_nearest_84
      rw [e, if_neg (nI_ge (by omega) (by omega)), apart10 hn ha (show a + 1 + i < n by omega) hq, Option.bind_some, Option.bind_some, nI_1, pe]
      split
      · rfl
      · split
        · rfl
        · rfl)
theorem near10 {n : Nat} (hn : n ≤ 9) {q : Nat → Nat → Int64} {m : q_Mm} (e : m.1 58 11 = nI n) (hq : ∀ x y, x < n → y < n → (m.2 70 x - m.2 70 y) * (m.2 70 x - m.2 70 y) + (m.2 71 x - m.2 71 y) * (m.2 71 x - m.2 71 y) = q x y) (y1 y2 t : Int32) (z : Z10) : l_X10_nearest_69 7000 y1 y2 z.1 z.2.1 z.2.2.1 z.2.2.2 t 0 m = some (o10 q t n n z) :=
  qlp7g (fun f i (s : Z10) => l_X10_nearest_69 f y1 y2 s.1 s.2.1 s.2.2.1 s.2.2.2 t (nI i) m) n 0 (fun i => o10 q t n i z) (fun s => s) (by omega) (by omega)
    (fun f => by
      show l_X10_nearest_69 (f + 1) _ _ _ _ _ _ _ _ _ = _
      unfold l_X10_nearest_69
      rw [e, if_pos (nI_le (by omega) (by omega))])
    (fun f i _ hi => by
      show l_X10_nearest_69 (f + 1) _ _ _ _ _ _ _ _ _ = l_X10_nearest_69 f _ _ _ _ _ _ _ _ _
      conv => lhs; unfold l_X10_nearest_69
      rw [e, if_neg (nI_ge hi (by omega)), nI_1, near_i hi hn e hq, Option.bind_some]
      rfl)
theorem clos_i {n a : Nat} (ha : a < n) (hn : n ≤ 9) {q : Nat → Nat → Int64} {m : q_Mm} (e : m.1 58 11 = nI n) (hq : ∀ x y, x < n → y < n → (m.2 70 x - m.2 70 y) * (m.2 70 x - m.2 70 y) + (m.2 71 x - m.2 71 y) * (m.2 71 x - m.2 71 y) = q x y) (y1 y2 y3 y4 : Int32) (z : Int32) : l_X10_close_63 7000 y1 y2 y3 y4 z (nI a) (nI (a + 1)) m = some (i11 q (y2.toInt64 * y2.toInt64) a (n - 1 - a) z) :=
  qlp7g (fun f i (s : Int32) => l_X10_close_63 f y1 y2 y3 y4 s (nI a) (nI (a + 1 + i)) m) (n - 1 - a) 0 (fun i => i11 q (y2.toInt64 * y2.toInt64) a i z) (fun s => s) (by omega) (by omega)
    (fun f => by
      show l_X10_close_63 (f + 1) _ _ _ _ _ _ _ _ = _
      unfold l_X10_close_63
      rw [e, if_pos (nI_le (by omega) (by omega))])
    (fun f i _ hi => by
      show l_X10_close_63 (f + 1) _ _ _ _ _ _ _ _ = l_X10_close_63 f _ _ _ _ _ _ _ _
      have pe : i11 q (y2.toInt64 * y2.toInt64) a (i + 1) z = if i11 q (y2.toInt64 * y2.toInt64) a i z = 0 then if y2.toInt64 * y2.toInt64 ≤ q a (a + 1 + i) then 0 else 1 else 1 := rfl
      conv => lhs; unfold l_X10_close_63
      rw [e, if_neg (nI_ge (by omega) (by omega)), apart10 hn ha (show a + 1 + i < n by omega) hq, Option.bind_some, nI_1, pe]
      split
      · split
        · rfl
        · rfl
      · rfl)
theorem clos10 {n : Nat} (hn : n ≤ 9) {q : Nat → Nat → Int64} {m : q_Mm} (e : m.1 58 11 = nI n) (hq : ∀ x y, x < n → y < n → (m.2 70 x - m.2 70 y) * (m.2 70 x - m.2 70 y) + (m.2 71 x - m.2 71 y) * (m.2 71 x - m.2 71 y) = q x y) (y1 y2 y3 y4 : Int32) (z : Int32) : l_X10_close_48 7000 y1 y2 y3 y4 z 0 m = some (o11 q (y2.toInt64 * y2.toInt64) n n z) :=
  qlp7g (fun f i (s : Int32) => l_X10_close_48 f y1 y2 y3 y4 s (nI i) m) n 0 (fun i => o11 q (y2.toInt64 * y2.toInt64) n i z) (fun s => s) (by omega) (by omega)
    (fun f => by
      show l_X10_close_48 (f + 1) _ _ _ _ _ _ _ = _
      unfold l_X10_close_48
      rw [e, if_pos (nI_le (by omega) (by omega))])
    (fun f i _ hi => by
      show l_X10_close_48 (f + 1) _ _ _ _ _ _ _ = l_X10_close_48 f _ _ _ _ _ _ _
      conv => lhs; unfold l_X10_close_48
      rw [e, if_neg (nI_ge hi (by omega)), nI_1, clos_i hi hn e hq, Option.bind_some]
      rfl)
/-! the folds against one another -/
theorem MAXi : (4611686018427387904 : Int64).toInt = 4611686018427387904 := rfl
theorem z0i : (0 : Int64).toInt = 0 := rfl
/-- z0: the reference's state before the minute; L: the class's least before it -/
def Rn (L : Int64) (t : Int32) (z0 : Z10) (u : Z9) (v : Z10) : Prop := v = if u.1 < L then (u.1, t, u.2.1, u.2.2) else z0
def Lz (L : Int64) (z0 : Z10) : Prop := (z0.1 < 0 ∧ L = 4611686018427387904) ∨ (0 ≤ z0.1.toInt ∧ L = z0.1 ∧ z0.1.toInt ≤ 4611686018427387904)
theorem Lz_le {L : Int64} {z0 : Z10} (h : Lz L z0) : L.toInt ≤ 4611686018427387904 := by
  rcases h with ⟨_, k2⟩ | ⟨_, k2, k3⟩
  · rw [k2, MAXi]
    omega
  · rw [k2]
    exact k3
def Ub (u : Z9) : Prop := 0 ≤ u.1.toInt
theorem Rn_s {L : Int64} {t : Int32} {z0 : Z10} {u : Z9} {v : Z10} {q : Nat → Nat → Int64} {a b : Nat} (hL : Lz L z0) (hq : 0 ≤ (q a b).toInt ∧ (q a b).toInt < 4000000000000000000) (hU : Ub u) (h : Rn L t z0 u v) : Rn L t z0 (s9 q a b u) (s10 q t a b v) ∧ Ub (s9 q a b u) := by
  unfold Rn at h ⊢
  unfold Ub at hU ⊢
  unfold s9 s10
  subst h
  have lo := Int64.toInt_le u.1
  refine ⟨?_, ?_⟩
  · by_cases h1 : u.1 < L
    · rw [if_pos h1]
      dsimp only
      rw [if_neg (show ¬ u.1 < 0 by rw [r_ltL, z0i]; omega)]
      by_cases h2 : u.1 ≤ q a b
      · rw [if_pos h2, if_pos h2, if_pos h1]
      · rw [if_neg h2, if_neg h2]
        dsimp only
        rw [if_pos (by rw [r_ltL] at h1 ⊢; rw [r_leL] at h2; omega)]
    · rw [if_neg h1]
      rcases hL with ⟨k1, k2⟩ | ⟨k1, k2, _⟩
      · rw [if_pos k1, if_neg (show ¬ u.1 ≤ q a b by rw [k2, r_ltL, MAXi] at h1; rw [r_leL]; omega)]
        dsimp only
        rw [if_pos (by rw [k2, r_ltL, MAXi]; omega)]
      · rw [if_neg (show ¬ z0.1 < 0 by rw [r_ltL, z0i]; omega)]
        rw [k2] at h1 ⊢
        by_cases h2 : z0.1 ≤ q a b
        · rw [if_pos h2]
          by_cases h3 : u.1 ≤ q a b
          · rw [if_pos h3, if_neg h1]
          · rw [if_neg h3]
            dsimp only
            rw [if_neg (by rw [r_ltL]; rw [r_leL] at h2; omega)]
        · rw [if_neg h2, if_neg (show ¬ u.1 ≤ q a b by rw [r_leL] at h2 ⊢; rw [r_ltL] at h1; omega)]
          dsimp only
          rw [if_pos (by rw [r_ltL]; rw [r_leL] at h2; omega)]
  · split
    · exact hU
    · exact hq.1
theorem Rn_i {L : Int64} {t : Int32} {z0 : Z10} {u : Z9} {v : Z10} {q : Nat → Nat → Int64} {n a : Nat} (hL : Lz L z0) (hq : ∀ x y, x < n → y < n → 0 ≤ (q x y).toInt ∧ (q x y).toInt < 4000000000000000000) (hU : Ub u) (h : Rn L t z0 u v) (ha : a < n) : ∀ k, a + k < n → Rn L t z0 (i9 q a k u) (i10 q t a k v) ∧ Ub (i9 q a k u) := by
  intro k
  induction k with
  | zero => intro _; exact ⟨h, hU⟩
  | succ k ih =>
    intro hk
    obtain ⟨h1, h2⟩ := ih (by omega)
    exact Rn_s hL (hq a (a + 1 + k) ha (by omega)) h2 h1
theorem Rn_o {L : Int64} {t : Int32} {z0 : Z10} {u : Z9} {v : Z10} {q : Nat → Nat → Int64} {n : Nat} (hL : Lz L z0) (hq : ∀ x y, x < n → y < n → 0 ≤ (q x y).toInt ∧ (q x y).toInt < 4000000000000000000) (hU : Ub u) (h : Rn L t z0 u v) : ∀ a, a ≤ n → Rn L t z0 (o9 q n a u) (o10 q t n a v) ∧ Ub (o9 q n a u) := by
  intro a
  induction a with
  | zero => intro _; exact ⟨h, hU⟩
  | succ a ih =>
    intro hk
    obtain ⟨h1, h2⟩ := ih (by omega)
    exact Rn_i hL hq h2 h1 (show a < n by omega) (n - 1 - a) (by omega)
/-- a pair was looked at -/
theorem i9_le {q : Nat → Nat → Int64} {a : Nat} {u : Z9} : ∀ k, (i9 q a k u).1.toInt ≤ u.1.toInt ∧ (0 < k → (i9 q a k u).1.toInt ≤ (q a (a + 1)).toInt) := by
  intro k
  induction k with
  | zero => exact ⟨Int.le_refl _, fun h => absurd h (by omega)⟩
  | succ k ih =>
    have pe : i9 q a (k + 1) u = if (i9 q a k u).1 ≤ q a (a + 1 + k) then i9 q a k u else (q a (a + 1 + k), nI a, nI (a + 1 + k)) := rfl
    rw [pe]
    by_cases h : (i9 q a k u).1 ≤ q a (a + 1 + k)
    · rw [if_pos h]
      refine ⟨ih.1, fun _ => ?_⟩
      by_cases hk : k = 0
      · subst hk
        rw [r_leL] at h
        exact h
      · exact ih.2 (by omega)
    · rw [if_neg h]
      rw [r_leL] at h
      dsimp only
      refine ⟨by omega, fun _ => ?_⟩
      by_cases hk : k = 0
      · subst hk
        exact Int.le_refl _
      · have := ih.2 (by omega)
        omega
theorem o9_le {q : Nat → Nat → Int64} {n : Nat} {u : Z9} (hn : 2 ≤ n) : ∀ a, (o9 q n (a + 1) u).1.toInt ≤ (q 0 1).toInt := by
  intro a
  induction a with
  | zero => exact (i9_le (q := q) (a := 0) (u := u) (n - 1 - 0)).2 (by omega)
  | succ a ih =>
    have := (i9_le (q := q) (a := a + 1) (u := o9 q n (a + 1) u) (n - 1 - (a + 1))).1
    have pe : o9 q n (a + 1 + 1) u = i9 q (a + 1) (n - 1 - (a + 1)) (o9 q n (a + 1) u) := rfl
    rw [pe]
    omega
/-- close -/
def Rc (lim : Int64) (u : Z9) (v : Int32) : Prop := v = if u.1 < lim then 1 else 0
theorem Rc_s {lim : Int64} {u : Z9} {v : Int32} {q : Nat → Nat → Int64} {a b : Nat} (h : Rc lim u v) : Rc lim (s9 q a b u) (s11 q lim a b v) := by
  unfold Rc at h ⊢
  unfold s9 s11
  subst h
  by_cases h1 : u.1 < lim
  · rw [if_pos h1, if_neg (by decide)]
    by_cases h2 : u.1 ≤ q a b
    · rw [if_pos h2, if_pos h1]
    · rw [if_neg h2]
      dsimp only
      rw [if_pos (by rw [r_ltL] at h1 ⊢; rw [r_leL] at h2; omega)]
  · rw [if_neg h1, if_pos rfl]
    by_cases h3 : lim ≤ q a b
    · rw [if_pos h3]
      by_cases h2 : u.1 ≤ q a b
      · rw [if_pos h2, if_neg h1]
      · rw [if_neg h2]
        dsimp only
        rw [if_neg (by rw [r_ltL]; rw [r_leL] at h3; omega)]
    · rw [if_neg h3, if_neg (show ¬ u.1 ≤ q a b by rw [r_ltL] at h1; rw [r_leL] at h3 ⊢; omega)]
      dsimp only
      rw [if_pos (by rw [r_ltL]; rw [r_leL] at h3; omega)]
theorem Rc_i {lim : Int64} {u : Z9} {v : Int32} {q : Nat → Nat → Int64} {a : Nat} (h : Rc lim u v) : ∀ k, Rc lim (i9 q a k u) (i11 q lim a k v) := by
  intro k
  induction k with
  | zero => exact h
  | succ k ih => exact Rc_s ih
theorem Rc_o {lim : Int64} {u : Z9} {v : Int32} {q : Nat → Nat → Int64} {n : Nat} (h : Rc lim u v) : ∀ a, Rc lim (o9 q n a u) (o11 q lim n a v) := by
  intro a
  induction a with
  | zero => exact h
  | succ a ih => exact Rc_i ih (n - 1 - a)
