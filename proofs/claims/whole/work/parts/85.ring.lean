/-! PURE: sums over the ring -/
def su (f : Nat → Nat) : Nat → Nat
  | 0 => 0
  | n + 1 => su f n + f n
theorem su_s {f : Nat → Nat} {n : Nat} : su f (n + 1) = su f n + f n := rfl
theorem su_c {f g : Nat → Nat} : ∀ n, (∀ i, i < n → f i = g i) → su f n = su g n := by
  intro n
  induction n with
  | zero => intro _; rfl
  | succ n ih => intro h; rw [su_s, su_s, ih (fun i hi => h i (by omega)), h n (by omega)]
theorem su_a {f g : Nat → Nat} : ∀ n, su (fun i => f i + g i) n = su f n + su g n := by
  intro n
  induction n with
  | zero => rfl
  | succ n ih => rw [su_s, su_s, su_s, ih]; omega
theorem su_f {f : Nat → Nat} : ∀ n, su f (n + 1) = f 0 + su (fun i => f (i + 1)) n := by
  intro n
  induction n with
  | zero => show 0 + f 0 = f 0 + 0; omega
  | succ n ih => rw [su_s, ih, su_s]; omega
theorem su_r {f : Nat → Nat} : ∀ n, su (fun i => f (n - i)) n = su (fun i => f (i + 1)) n := by
  intro n
  induction n with
  | zero => rfl
  | succ n ih =>
    rw [su_f, su_s, ← ih]
    have : su (fun i => f (n + 1 - (i + 1))) n = su (fun i => f (n - i)) n := su_c n (fun i hi => by rw [show n + 1 - (i + 1) = n - i by omega])
    rw [this, show n + 1 - 0 = n + 1 from rfl]
    omega
theorem su_m {f : Nat → Nat} {a : Nat} : ∀ b, a ≤ b → su f a ≤ su f b := by
  intro b
  induction b with
  | zero => intro h; rw [show a = 0 by omega]; omega
  | succ b ih =>
    intro h
    by_cases hb : a = b + 1
    · rw [hb]; omega
    · have := ih (by omega)
      rw [su_s]
      omega
/-- one column of the ring of half-width (e + 1) / 2 -/
abbrev rgp (e a b : Nat) : Prop := a = 0 ∨ a = e + 1 ∨ b = 0 ∨ b = e + 1
def rI (Q : Nat → Nat → Nat) (e a : Nat) : Nat → Nat := su (fun b => if rgp e a b then Q a b else 0)
def rO (Q : Nat → Nat → Nat) (e : Nat) : Nat → Nat := su (fun a => rI Q e a (e + 2))
theorem rI_all {Q : Nat → Nat → Nat} {e a : Nat} (h : a = 0 ∨ a = e + 1) (n : Nat) : rI Q e a n = su (Q a) n := su_c n (fun b _ => by
  rw [if_pos (by unfold rgp; omega)])
theorem rI_mid {Q : Nat → Nat → Nat} {e a : Nat} (h : 0 < a) (h2 : a < e + 1) : rI Q e a (e + 2) = Q a 0 + Q a (e + 1) := by
  have k : ∀ n, n ≤ e → rI Q e a (n + 1) = Q a 0 := by
    intro n
    induction n with
    | zero =>
      intro _
      show 0 + (if rgp e a 0 then Q a 0 else 0) = Q a 0
      rw [if_pos (by unfold rgp; omega)]
      omega
    | succ n ih =>
      intro hn
      show rI Q e a (n + 1) + (if rgp e a (n + 1) then Q a (n + 1) else 0) = Q a 0
      rw [ih (by omega), if_neg (by unfold rgp; omega)]
      omega
  show rI Q e a (e + 1) + (if rgp e a (e + 1) then Q a (e + 1) else 0) = _
  rw [k e (Nat.le_refl _), if_pos (by unfold rgp; omega)]
theorem rO_n {Q : Nat → Nat → Nat} {e : Nat} : ∀ n, n ≤ e → rO Q e (n + 1) = su (Q 0) (e + 2) + su (fun i => Q (i + 1) 0 + Q (i + 1) (e + 1)) n := by
  intro n
  induction n with
  | zero =>
    intro _
    show 0 + rI Q e 0 (e + 2) = _ + 0
    rw [rI_all (Or.inl rfl)]
    omega
  | succ n ih =>
    intro hn
    show rO Q e (n + 1) + rI Q e (n + 1) (e + 2) = _
    rw [ih (by omega), rI_mid (by omega) (by omega), su_s (f := fun i => Q (i + 1) 0 + Q (i + 1) (e + 1)) (n := n)]
    omega
theorem ring_eq {Q : Nat → Nat → Nat} {e : Nat} : su (fun u => Q u 0 + Q (e + 1) u + Q (e + 1 - u) (e + 1) + Q 0 (e + 1 - u)) (e + 1) = rO Q e (e + 2) := by
  have h1 : rO Q e (e + 2) = rO Q e (e + 1) + rI Q e (e + 1) (e + 2) := rfl
  rw [h1, rO_n e (Nat.le_refl _), rI_all (Or.inr rfl), su_a (f := fun u => Q u 0 + Q (e + 1) u + Q (e + 1 - u) (e + 1)) (g := fun u => Q 0 (e + 1 - u)), su_a (f := fun u => Q u 0 + Q (e + 1) u) (g := fun u => Q (e + 1 - u) (e + 1)), su_a (f := fun u => Q u 0) (g := fun u => Q (e + 1) u)]
  rw [su_r (f := fun u => Q u (e + 1)) (e + 1), su_r (f := fun u => Q 0 u) (e + 1), su_a (f := fun i => Q (i + 1) 0) (g := fun i => Q (i + 1) (e + 1))]
  rw [su_f (f := fun u => Q u 0) e, su_s (f := fun u => Q (u + 1) (e + 1)) (n := e), su_f (f := Q 0) (e + 1), su_s (f := Q (e + 1)) (n := e + 1)]
  have : su (fun u => Q (e + 1) u) (e + 1) = su (Q (e + 1)) (e + 1) := rfl
  omega
theorem ring_8 {e : Nat} : rO (fun _ _ => 1) e (e + 2) = 4 * (e + 1) := by
  rw [← ring_eq]
  have k : ∀ n, su (fun _ => 1 + 1 + 1 + 1) n = 4 * n := by
    intro n
    induction n with
    | zero => rfl
    | succ n ih => rw [su_s, ih]; omega
  exact k (e + 1)
/-! what is seen -/
def cnt (f : Nat → Int32) (y : Int32) : Nat → Nat := su (fun i => if f i &&& y = 0 then 0 else 1)
theorem cnt_s {f : Nat → Int32} {y : Int32} {n : Nat} : cnt f y (n + 1) = cnt f y n + if f n &&& y = 0 then 0 else 1 := rfl
theorem cnt_le {f : Nat → Int32} {y : Int32} : ∀ n, cnt f y n ≤ n := by
  intro n
  induction n with
  | zero => exact Nat.le_refl _
  | succ n ih =>
    have : cnt f y (n + 1) = cnt f y n + if f n &&& y = 0 then 0 else 1 := rfl
    rw [this]
    split <;> omega
theorem cnt_c {f g : Nat → Int32} {y : Int32} (n : Nat) (h : ∀ i, i < n → f i = g i) : cnt f y n = cnt g y n := su_c n (fun i hi => by rw [h i hi])
theorem seen9 {m : q_Mm} {n : Nat} (hn : n ≤ 400) (e : m.1 28 5 = nI n) (y : Int32) : f_X6_pointsSeen y m = some (nI (cnt (m.1 32) y n)) := by
  have l := qlp7g (fun f i (s : Int32) => l_X6_pointsSeen_4 f y s (nI i) m) n 0 (fun i => nI (cnt (m.1 32) y i)) (fun s => s) (by omega) (by omega)
    (fun f => by
      show l_X6_pointsSeen_4 (f + 1) _ _ _ _ = _
      unfold l_X6_pointsSeen_4
      rw [e, if_pos (nI_le (Nat.le_refl _) (by omega))])
    (fun f i _ hi => by
      show l_X6_pointsSeen_4 (f + 1) _ _ _ _ = l_X6_pointsSeen_4 f _ _ _ _
      have pe : cnt (m.1 32) y (i + 1) = cnt (m.1 32) y i + if m.1 32 i &&& y = 0 then 0 else 1 := rfl
      conv => lhs; unfold l_X6_pointsSeen_4
      rw [e, if_neg (nI_ge hi (by omega)), if_pos (r_in (show i < 400 by omega) (by decide)), r_cl (by omega), nI_1, nI_1, pe]
      split
      · rfl
      · rfl)
  unfold f_X6_pointsSeen
  rw [show l_X6_pointsSeen_4 7000 y 0 0 m = some (nI (cnt (m.1 32) y n)) from l]
  rfl
theorem seen10 {m : q_Mm} {d : Nat} (hd : d ≤ 50) (y : Int32) : f_X10_seenBy y (nI d) m = some (nI (cnt (m.1 80) y (8 * d))) := by
  have h8 : 8 * nI d = nI (8 * d) := by
    rw [r_eq, Int32.toInt_mul, r_nI (by omega), r_nI (by omega), show (8 : Int32).toInt = 8 from rfl, Int.bmod_eq_of_le (by omega) (by omega)]
    omega
  have l := qlp7g (fun f i (s : Int32) => l_X10_seenBy_5 f y (nI d) s (nI i) m) (8 * d) 0 (fun i => nI (cnt (m.1 80) y i)) (fun s => s) (by omega) (by omega)
    (fun f => by
      show l_X10_seenBy_5 (f + 1) _ _ _ _ _ = _
      unfold l_X10_seenBy_5
      rw [h8, if_pos (nI_le (Nat.le_refl _) (by omega))])
    (fun f i _ hi => by
      show l_X10_seenBy_5 (f + 1) _ _ _ _ _ = l_X10_seenBy_5 f _ _ _ _ _
      have pe : cnt (m.1 80) y (i + 1) = cnt (m.1 80) y i + if m.1 80 i &&& y = 0 then 0 else 1 := rfl
      conv => lhs; unfold l_X10_seenBy_5
      rw [h8, if_neg (nI_ge hi (by omega)), if_pos (r_in (show i < 400 by omega) (by decide)), r_cl (by omega), nI_1, nI_1, pe, Int32.add_zero]
      split
      · rfl
      · rfl)
  unfold f_X10_seenBy
  rw [show l_X10_seenBy_5 7000 y (nI d) 0 0 m = some (nI (cnt (m.1 80) y (8 * d))) from l]
  rfl
/-- the posts that see a point -/
def bp (I : Nat → Nat → Int32) (x y : Int32) : Nat → Int32
  | 0 => 0
  | i + 1 => if f_X10_isWithin (x - I 77 i).toInt64 (y - I 78 i).toInt64 (I 79 i).toInt64 m00 = 0 then bp I x y i else bp I x y i ||| ((1 : Int32) <<< (nI i &&& 31))
/-- the posts, alike on both sides -/
def Po (I : Nat → Nat → Int32) (c : Nat) : Prop := c ≤ 10 ∧ I 28 3 = nI c ∧ I 58 34 = nI c ∧ ∀ i, i < c → I 29 i = I 77 i ∧ I 30 i = I 78 i ∧ I 31 i = I 79 i
theorem Po_of {m : q_Mm} (hI : Inv m) : ∃ c, Po m.1 c := by
  obtain ⟨c, hc, e1, e2, hr⟩ := hI.2.2.2.2.2.2.1
  exact ⟨c, hc, e1, e2, fun i hi => ⟨(hr i hi).1, (hr i hi).2.1, (hr i hi).2.2.1⟩⟩
theorem watch9 {I : Nat → Nat → Int32} {c n : Nat} {m : q_Mm} (hP : Po I c) (hF : ∀ k j, ¬ k = 32 → ¬ (k = 28 ∧ j = 5) → m.1 k j = I k j) (hn : n < 400) (e : m.1 28 5 = nI n) (x y : Int32) : f_X6_watchPoint x y m = some (q_wi (q_wi m 32 n (bp I x y c)) 28 5 (nI (n + 1))) := by
  obtain ⟨hc, p1, p2, p3⟩ := hP
  have l := qlp7g (fun f i (s : Int32) => l_X6_watchPoint_5 f x y s (nI i) m) c 0 (fun i => bp I x y i) (fun s => s) (by omega) (by omega)
    (fun f => by
      show l_X6_watchPoint_5 (f + 1) _ _ _ _ _ = _
      unfold l_X6_watchPoint_5
      rw [hF 28 3 (by omega) (by omega), p1, if_pos (nI_le (Nat.le_refl _) (by omega))])
    (fun f i _ hi => by
      show l_X6_watchPoint_5 (f + 1) _ _ _ _ _ = l_X6_watchPoint_5 f _ _ _ _ _
      have pe : bp I x y (i + 1) = if f_X10_isWithin (x - I 77 i).toInt64 (y - I 78 i).toInt64 (I 79 i).toInt64 m00 = 0 then bp I x y i else bp I x y i ||| ((1 : Int32) <<< (nI i &&& 31)) := rfl
      have i10 : i < 10 := by omega
      obtain ⟨q1, q2, q3⟩ := p3 i hi
      conv => lhs; unfold l_X6_watchPoint_5
      unfold f_X9_squareOf
      rw [hF 28 3 (by omega) (by omega), p1, if_neg (nI_ge hi (by omega)), if_pos (r_in i10 (by decide)), if_pos (r_in i10 (by decide)), if_pos (r_in i10 (by decide)), if_pos (r_in i10 (by decide)), r_cl (show i < 2 ^ 31 by omega), hF 29 i (by omega) (by omega), hF 30 i (by omega) (by omega), hF 31 i (by omega) (by omega), q1, q2, q3, nI_1, pe]
      by_cases h : (I 79 i).toInt64 * (I 79 i).toInt64 < (x - I 77 i).toInt64 * (x - I 77 i).toInt64 + (y - I 78 i).toInt64 * (y - I 78 i).toInt64
      · rw [if_pos h, if_pos (isW0.mpr h)]
      · rw [if_neg h, if_neg (fun z => h (isW0.mp z))])
  unfold f_X6_watchPoint
  rw [show l_X6_watchPoint_5 7000 x y 0 0 m = some (bp I x y c) from l, Option.bind_some, e, if_pos (r_in hn (by decide)), r_cl (by omega), r_row (show ¬ 28 = 32 by decide), e, nI_1]
/-- a point, counted from the ring's corner -/
def pt (d u : Nat) : Int32 := nI u - nI d
theorem pt_i {d u : Nat} (hd : d ≤ 50) (hu : u ≤ 101) : (pt d u).toInt = (u : Int) - d := pk_sub_toInt (by omega) (by omega)
theorem pt_1 (d u : Nat) : pt d u + 1 = pt d (u + 1) := by
  unfold pt
  rw [← nI_1]
  grind
theorem pt_n {d u : Nat} (hd : d ≤ 50) (hu : u ≤ 2 * d) : -(pt d u) = pt d (2 * d - u) := by
  rw [r_eq, Int32.toInt_neg, pt_i hd (by omega), pt_i hd (by omega), Int.bmod_eq_of_le (by omega) (by omega)]
  omega
theorem pt_d {d : Nat} (hd : d ≤ 50) : nI d = pt d (2 * d) := by
  rw [r_eq, pt_i hd (by omega), r_nI (by omega)]
  omega
theorem pt_m {d : Nat} (hd : d ≤ 50) : -(nI d) = pt d 0 := by
  rw [r_eq, Int32.toInt_neg, pt_i hd (by omega), r_nI (by omega), Int.bmod_eq_of_le (by omega) (by omega)]
  omega
def Qp (I : Nat → Nat → Int32) (c d : Nat) (y : Int32) (a b : Nat) : Nat := if bp I (pt d a) (pt d b) c &&& y = 0 then 0 else 1
theorem app9 {I : Nat → Nat → Int32} {c n : Nat} {m : q_Mm} (hP : Po I c) (hF : ∀ k j, ¬ k = 32 → ¬ (k = 28 ∧ j = 5) → m.1 k j = I k j) (hn : n < 400) (e : m.1 28 5 = nI n) (x y : Int32) : ∃ m', f_X6_watchPoint x y m = some m' ∧ (∀ k j, ¬ k = 32 → ¬ (k = 28 ∧ j = 5) → m'.1 k j = I k j) ∧ m'.1 28 5 = nI (n + 1) ∧ ∀ z, cnt (m'.1 32) z (n + 1) = cnt (m.1 32) z n + if bp I x y c &&& z = 0 then 0 else 1 := by
  refine ⟨_, watch9 hP hF hn e x y, fun k j h1 h2 => ?_, ?_, fun z => ?_⟩
  · rw [r_wi, if_neg h2, r_wi, if_neg (fun w => h1 w.1)]
    exact hF k j h1 h2
  · rw [r_wi, if_pos ⟨rfl, rfl⟩]
  · rw [cnt_s, r_row (by decide)]
    have c1 : cnt ((q_wi m 32 n (bp I x y c)).1 32) z n = cnt (m.1 32) z n := cnt_c n (fun i hi => by rw [r_wi, if_neg (by omega)])
    rw [c1, r_wi, if_pos (show 32 = 32 ∧ n = n from ⟨rfl, rfl⟩)]
theorem ring9 {I : Nat → Nat → Int32} {c d : Nat} {m : q_Mm} (hP : Po I c) (h1 : 1 ≤ d) (hd : d ≤ 50) (hF : m.1 = I) : ∃ m', f_X6_watchRing (nI d) m = some m' ∧ (∀ k j, ¬ k = 32 → ¬ (k = 28 ∧ j = 5) → m'.1 k j = I k j) ∧ m'.1 28 5 = nI (8 * d) ∧ ∀ z, cnt (m'.1 32) z (8 * d) = rO (Qp I c d z) (2 * d - 1) (2 * d + 1) := by
  obtain ⟨m', q, b1, b2, b3⟩ := qlp7 (fun f i (s : q_Mm) => l_X6_watchRing_8 f (nI d) (pt d i) s) (2 * d) 0 (q_wi m 28 5 0) (fun i s => (∀ k j, ¬ k = 32 → ¬ (k = 28 ∧ j = 5) → s.1 k j = I k j) ∧ s.1 28 5 = nI (4 * i) ∧ ∀ z, cnt (s.1 32) z (4 * i) = su (fun u => Qp I c d z u 0 + Qp I c d z (2 * d) u + Qp I c d z (2 * d - u) (2 * d) + Qp I c d z 0 (2 * d - u)) i) (fun s => s) (by omega) (by omega) ⟨fun k j h1 h2 => by rw [r_wi, if_neg h2, hF], by rw [r_wi, if_pos ⟨rfl, rfl⟩]; rfl, fun _ => rfl⟩
    (fun f s hs => by
      show l_X6_watchRing_8 (f + 1) _ _ _ = _
      unfold l_X6_watchRing_8
      rw [if_pos (by rw [r_le, r_nI (by omega), pt_i hd (by omega)]; omega)])
    (fun f i s hi hs => by
      obtain ⟨c1, c2, c3⟩ := hs
      obtain ⟨s1, d1, d2, d3, d4⟩ := app9 hP c1 (show 4 * i < 400 by omega) c2 (pt d i) (pt d 0)
      obtain ⟨s2, e1, e2, e3, e4⟩ := app9 hP d2 (show 4 * i + 1 < 400 by omega) d3 (pt d (2 * d)) (pt d i)
      obtain ⟨s3, f1, f2, f3, f4⟩ := app9 hP e2 (show 4 * i + 1 + 1 < 400 by omega) e3 (pt d (2 * d - i)) (pt d (2 * d))
      obtain ⟨s4, g1, g2, g3, g4⟩ := app9 hP f2 (show 4 * i + 1 + 1 + 1 < 400 by omega) f3 (pt d 0) (pt d (2 * d - i))
      refine ⟨s4, ?_, g2, g3, fun z => ?_⟩
      · show l_X6_watchRing_8 (f + 1) _ _ _ = l_X6_watchRing_8 f _ _ _
        conv => lhs; unfold l_X6_watchRing_8
        rw [if_neg (by rw [r_le, r_nI (by omega), pt_i hd (by omega)]; omega), pt_m hd, pt_n hd (by omega), d1, Option.bind_some, show f_X6_watchPoint (nI d) (pt d i) s1 = some s2 by rw [pt_d hd]; exact e1, Option.bind_some, show f_X6_watchPoint (pt d (2 * d - i)) (nI d) s2 = some s3 by rw [pt_d hd]; exact f1, Option.bind_some, g1, Option.bind_some, pt_1]
      · show cnt (s4.1 32) z (4 * i + 1 + 1 + 1 + 1) = _
        rw [g4 z, f4 z, e4 z, d4 z, c3 z, su_s]
        unfold Qp
        omega)
  refine ⟨m', ?_, b1, ?_, fun z => ?_⟩
  · unfold f_X6_watchRing
    rw [show l_X6_watchRing_8 7000 (nI d) (-nI d) (q_wi m 28 5 0) = some m' by rw [pt_m hd]; exact q]
    rfl
  · rw [b2, show 4 * (2 * d) = 8 * d by omega]
  · rw [show 8 * d = 4 * (2 * d) by omega, b3 z]
    have := ring_eq (Q := Qp I c d z) (e := 2 * d - 1)
    rw [show 2 * d - 1 + 1 = 2 * d by omega, show 2 * d - 1 + 2 = 2 * d + 1 by omega] at this
    exact this
/-! the reference's ring -/
theorem seer10 {I : Nat → Nat → Int32} {c n : Nat} {m : q_Mm} (hP : Po I c) (hF : ∀ k, ¬ k = 80 → m.1 k = I k) (hn : n < 400) (d : Int32) (x y : Int32) : ∃ m', l_X10_findSeers_47 7000 d (nI n) x y 0 (q_wi m 80 n 0) = some m' ∧ (∀ k, ¬ k = 80 → m'.1 k = I k) ∧ ∀ z, cnt (m'.1 80) z (n + 1) = cnt (m.1 80) z n + if bp I x y c &&& z = 0 then 0 else 1 := by
  obtain ⟨hc, p1, p2, p3⟩ := hP
  obtain ⟨m', q, b1, b2, b3⟩ := qlp7 (fun f i (s : q_Mm) => l_X10_findSeers_47 f d (nI n) x y (nI i) s) c 0 (q_wi m 80 n 0) (fun i s => (∀ k, ¬ k = 80 → s.1 k = I k) ∧ (∀ j, ¬ j = n → s.1 80 j = m.1 80 j) ∧ s.1 80 n = bp I x y i) (fun s => s) (by omega) (by omega) ⟨fun k hk => by rw [r_row hk, hF k hk], fun j hj => by rw [r_wi, if_neg (by omega)], by rw [r_wi, if_pos ⟨rfl, rfl⟩]; rfl⟩
    (fun f s hs => by
      show l_X10_findSeers_47 (f + 1) _ _ _ _ _ _ = _
      unfold l_X10_findSeers_47
      rw [hs.1 58 (by decide), p2, if_pos (nI_le (Nat.le_refl _) (by omega))])
    (fun f i s hi hs => by
      obtain ⟨c1, c2, c3⟩ := hs
      have pe : bp I x y (i + 1) = if f_X10_isWithin (x - I 77 i).toInt64 (y - I 78 i).toInt64 (I 79 i).toInt64 m00 = 0 then bp I x y i else bp I x y i ||| ((1 : Int32) <<< (nI i &&& 31)) := rfl
      have i10 : i < 10 := by omega
      refine ⟨q_wi s 80 n (bp I x y (i + 1)), ?_, fun k hk => by rw [r_row hk, c1 k hk], fun j hj => by rw [r_wi, if_neg (by omega), c2 j hj], by rw [r_wi, if_pos ⟨rfl, rfl⟩]⟩
      show l_X10_findSeers_47 (f + 1) _ _ _ _ _ _ = l_X10_findSeers_47 f _ _ _ _ _ _
      conv => lhs; unfold l_X10_findSeers_47
      rw [c1 58 (by decide), p2, if_neg (nI_ge hi (by omega)), if_pos (r_in hn (by decide)), if_pos (r_in i10 (by decide)), if_pos (r_in i10 (by decide)), if_pos (r_in i10 (by decide)), r_cl (show i < 2 ^ 31 by omega), r_cl (show n < 2 ^ 31 by omega), if_pos (r_in hn (by decide)), if_pos (r_in hn (by decide)), c1 77 (by decide), c1 78 (by decide), c1 79 (by decide), c3, nI_1, pe, Int32.or_zero]
      by_cases h : (I 79 i).toInt64 * (I 79 i).toInt64 < (x - I 77 i).toInt64 * (x - I 77 i).toInt64 + (y - I 78 i).toInt64 * (y - I 78 i).toInt64
      · rw [if_pos (isW0.mpr h), if_pos (isW0.mpr h)]
      · rw [if_neg (fun z => h (isW0.mp z)), if_neg (fun z => h (isW0.mp z))])
  refine ⟨m', q, b1, fun z => ?_⟩
  rw [cnt_s, cnt_c (g := m.1 80) n (fun i hi => b2 i (by omega)), b3]
theorem size_d {d a : Nat} {m : q_Mm} (h1 : 1 ≤ d) (hd : d ≤ 50) (ha : a ≤ 2 * d) : f_X10_size (pt d a) m = nI d ↔ (a = 0 ∨ a = 2 * d) := by
  unfold f_X10_size
  have e0 : (0 : Int32).toInt = 0 := rfl
  by_cases h : (0 : Int32) ≤ pt d a
  · rw [if_pos h, r_eq, r_nI (by omega), pt_i hd (by omega)]
    rw [r_le, e0, pt_i hd (by omega)] at h
    omega
  · rw [if_neg h, pt_n hd ha, r_eq, r_nI (by omega), pt_i hd (by omega)]
    rw [r_le, e0, pt_i hd (by omega)] at h
    omega
/-- the reference's state: k points laid -/
def S10 (I : Nat → Nat → Int32) (c d : Nat) (k : Nat) (G : (Nat → Nat → Nat) → Nat) (m : q_Mm) : Prop := k = G (fun _ _ => 1) ∧ (∀ q, ¬ q = 80 → m.1 q = I q) ∧ ∀ z, cnt (m.1 80) z k = G (Qp I c d z)
theorem col10 {I : Nat → Nat → Int32} {c d a k : Nat} {m : q_Mm} (hP : Po I c) (h1 : 1 ≤ d) (hd : d ≤ 50) (ha : a ≤ 2 * d) (hS : S10 I c d k (fun Q => rO Q (2 * d - 1) a) m) : ∃ k' m', l_X10_findSeers_14 7000 (nI d) (nI k) (pt d a) (pt d 0) m = some (nI k', m') ∧ S10 I c d k' (fun Q => rO Q (2 * d - 1) (a + 1)) m' := by
  have tot : ∀ b, b ≤ 2 * d → rgp (2 * d - 1) a b → rO (fun _ _ => 1) (2 * d - 1) a + rI (fun _ _ => 1) (2 * d - 1) a b + 1 ≤ 400 := by
    intro b hb hr
    have t8 := ring_8 (e := 2 * d - 1)
    rw [show 2 * d - 1 + 2 = 2 * d + 1 by omega, show 2 * d - 1 + 1 = 2 * d by omega] at t8
    have m1 : rO (fun _ _ => 1) (2 * d - 1) (a + 1) ≤ rO (fun _ _ => 1) (2 * d - 1) (2 * d + 1) := su_m (2 * d + 1) (by omega)
    have m2 : rO (fun _ _ => 1) (2 * d - 1) (a + 1) = rO (fun _ _ => 1) (2 * d - 1) a + rI (fun _ _ => 1) (2 * d - 1) a (2 * d - 1 + 2) := rfl
    have m3 : rI (fun _ _ => 1) (2 * d - 1) a (b + 1) ≤ rI (fun _ _ => 1) (2 * d - 1) a (2 * d - 1 + 2) := su_m (2 * d - 1 + 2) (by omega)
    have m4 : rI (fun _ _ => 1) (2 * d - 1) a (b + 1) = rI (fun _ _ => 1) (2 * d - 1) a b + if rgp (2 * d - 1) a b then 1 else 0 := rfl
    rw [if_pos hr] at m4
    omega
  obtain ⟨⟨k', m'⟩, q, b1⟩ := qlp7 (fun f i (s : Nat × q_Mm) => l_X10_findSeers_14 f (nI d) (nI s.1) (pt d a) (pt d i) s.2) (2 * d + 1) 0 (k, m) (fun i s => S10 I c d s.1 (fun Q => rO Q (2 * d - 1) a + rI Q (2 * d - 1) a i) s.2) (fun s => (nI s.1, s.2)) (by omega) (by omega) hS
    (fun f s hs => by
      show l_X10_findSeers_14 (f + 1) _ _ _ _ _ = _
      unfold l_X10_findSeers_14
      rw [if_pos (by rw [r_lt, r_nI (by omega), pt_i hd (by omega)]; omega)])
    (fun f i s hi hs => by
      obtain ⟨k, s⟩ := s
      obtain ⟨c1, c2, c3⟩ := hs
      dsimp only at c1 c2 c3
      have pe : ∀ Q, rI Q (2 * d - 1) a (i + 1) = rI Q (2 * d - 1) a i + if rgp (2 * d - 1) a i then Q a i else 0 := fun _ => rfl
      have rg : rgp (2 * d - 1) a i ↔ ((a = 0 ∨ a = 2 * d) ∨ (i = 0 ∨ i = 2 * d)) := by unfold rgp; omega
      show ∃ s', l_X10_findSeers_14 (f + 1) _ _ _ _ s = l_X10_findSeers_14 f _ (nI (Prod.fst s')) _ _ (Prod.snd s') ∧ _
      have un : l_X10_findSeers_14 (f + 1) (nI d) (nI k) (pt d a) (pt d i) s = if rgp (2 * d - 1) a i then (if q_in (nI k) 400 = true then (l_X10_findSeers_47 7000 (nI d) (nI k) (pt d a) (pt d i) 0 (q_wi s 80 (nI k).toNatClampNeg 0)).bind fun r8 => l_X10_findSeers_14 f (nI d) (nI (k + 1)) (pt d a) (pt d (i + 1)) r8 else none) else l_X10_findSeers_14 f (nI d) (nI k) (pt d a) (pt d (i + 1)) s := by
        conv => lhs; unfold l_X10_findSeers_14
        rw [if_neg (by rw [r_lt, r_nI (by omega), pt_i hd (by omega)]; omega), pt_1, nI_1]
        by_cases ga : a = 0 ∨ a = 2 * d
        · rw [if_pos ((size_d h1 hd ha).mpr ga), if_pos (rg.mpr (Or.inl ga))]
        · rw [if_neg (fun z => ga ((size_d h1 hd ha).mp z))]
          by_cases gi : i = 0 ∨ i = 2 * d
          · rw [if_pos ((size_d h1 hd (by omega)).mpr gi), if_pos (rg.mpr (Or.inr gi))]
          · rw [if_neg (fun z => gi ((size_d h1 hd (by omega)).mp z)), if_neg (fun z => by rcases rg.mp z with w | w; exact ga w; exact gi w)]
      rw [un]
      by_cases hr : rgp (2 * d - 1) a i
      · have hk : k < 400 := by
          have := tot i (by omega) hr
          omega
        obtain ⟨s', d1, d2, d3⟩ := seer10 hP c2 hk (nI d) (pt d a) (pt d i)
        rw [if_pos hr, if_pos (r_in hk (by decide)), r_cl (by omega), d1, Option.bind_some]
        refine ⟨(k + 1, s'), rfl, ?_, d2, fun z => ?_⟩
        · dsimp only
          rw [pe, if_pos hr, c1]
          omega
        · dsimp only
          rw [d3 z, c3 z, pe, if_pos hr]
          unfold Qp
          omega
      · rw [if_neg hr]
        refine ⟨(k, s), rfl, ?_, c2, fun z => ?_⟩
        · dsimp only
          rw [pe, if_neg hr, c1]
          omega
        · dsimp only
          rw [pe, if_neg hr, c3 z]
          omega)
  refine ⟨k', m', q, ?_⟩
  have pe : ∀ Q, rO Q (2 * d - 1) (a + 1) = rO Q (2 * d - 1) a + rI Q (2 * d - 1) a (2 * d + 1) := fun Q => by
    show rO Q (2 * d - 1) a + rI Q (2 * d - 1) a (2 * d - 1 + 2) = _
    rw [show 2 * d - 1 + 2 = 2 * d + 1 by omega]
  obtain ⟨c1, c2, c3⟩ := b1
  exact ⟨c1.trans (pe _).symm, c2, fun z => (c3 z).trans (pe _).symm⟩
theorem ring10 {I : Nat → Nat → Int32} {c d : Nat} {m : q_Mm} (hP : Po I c) (h1 : 1 ≤ d) (hd : d ≤ 50) (hF : ∀ q, ¬ q = 80 → m.1 q = I q) : ∃ m', f_X10_findSeers (nI d) m = some m' ∧ (∀ q, ¬ q = 80 → m'.1 q = I q) ∧ ∀ z, cnt (m'.1 80) z (8 * d) = rO (Qp I c d z) (2 * d - 1) (2 * d + 1) := by
  obtain ⟨⟨k', m'⟩, q, b1⟩ := qlp7 (fun f i (s : Nat × q_Mm) => l_X10_findSeers_5 f (nI d) (nI s.1) (pt d i) s.2) (2 * d + 1) 0 (0, m) (fun i s => S10 I c d s.1 (fun Q => rO Q (2 * d - 1) i) s.2) (fun s => s.2) (by omega) (by omega) ⟨rfl, hF, fun _ => rfl⟩
    (fun f s hs => by
      show l_X10_findSeers_5 (f + 1) _ _ _ _ = _
      unfold l_X10_findSeers_5
      rw [if_pos (by rw [r_lt, r_nI (by omega), pt_i hd (by omega)]; omega)])
    (fun f i s hi hs => by
      obtain ⟨k', s', e, h⟩ := col10 hP h1 hd (show i ≤ 2 * d by omega) hs
      refine ⟨(k', s'), ?_, h⟩
      show l_X10_findSeers_5 (f + 1) _ _ _ _ = l_X10_findSeers_5 f _ _ _ _
      conv => lhs; unfold l_X10_findSeers_5
      rw [if_neg (by rw [r_lt, r_nI (by omega), pt_i hd (by omega)]; omega), pt_m hd, e, Option.bind_some, pt_1])
  obtain ⟨c1, c2, c3⟩ := b1
  refine ⟨m', ?_, c2, fun z => ?_⟩
  · unfold f_X10_findSeers
    rw [show l_X10_findSeers_5 7000 (nI d) 0 (-nI d) m = some m' by rw [pt_m hd]; exact q]
    rfl
  · have t8 := ring_8 (e := 2 * d - 1)
    rw [show 2 * d - 1 + 2 = 2 * d + 1 by omega, show 2 * d - 1 + 1 = 2 * d by omega] at t8
    dsimp only at c1
    have h8 : k' = 8 * d := by omega
    subst h8
    exact c3 z
