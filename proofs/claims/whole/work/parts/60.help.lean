/-! PURE: numbers -/
theorem r_lt {x y : Int32} : x < y ↔ x.toInt < y.toInt := Int32.lt_iff_toInt_lt
theorem r_le {x y : Int32} : x ≤ y ↔ x.toInt ≤ y.toInt := Int32.le_iff_toInt_le
theorem r_ltL {x y : Int64} : x < y ↔ x.toInt < y.toInt := Int64.lt_iff_toInt_lt
theorem r_leL {x y : Int64} : x ≤ y ↔ x.toInt ≤ y.toInt := Int64.le_iff_toInt_le
theorem r_eq {x y : Int32} : x = y ↔ x.toInt = y.toInt := Int32.toInt_inj.symm
theorem r_64 (x : Int32) : x.toInt64.toInt = x.toInt := Int32.toInt_toInt64 x
theorem r_lo (x : Int32) : -2147483648 ≤ x.toInt := Int32.le_toInt x
theorem r_hi (x : Int32) : x.toInt < 2147483648 := Int32.toInt_lt x
theorem r_nI {n : Nat} (h : n < 2 ^ 31) : (nI n).toInt = n := nI_toInt h
theorem r_cl {n : Nat} (h : n < 2 ^ 31) : (nI n).toNatClampNeg = n := nI_clamp h
/-- a number from 0 to n - 1 -/
theorem r_of {x : Int32} {n : Nat} (h0 : 0 ≤ x.toInt) (h1 : x.toInt < n) (hn : n ≤ 2 ^ 31) : ∃ k : Nat, k < n ∧ x = nI k := by
  refine ⟨x.toInt.toNat, by omega, ?_⟩
  rw [r_eq, r_nI (by omega)]
  omega
theorem r_in {k n : Nat} (h : k < n) (hn : n ≤ 2 ^ 31) : q_in (nI k) n = true := by
  simp only [q_in, Bool.and_eq_true, decide_eq_true_eq, r_le, r_cl (show k < 2 ^ 31 by omega), r_nI (show k < 2 ^ 31 by omega)]
  exact ⟨by show (0 : Int) ≤ _; omega, h⟩
/-- within, in -/
theorem r_within {x lo hi : Int32} {m : q_Mm} : f_X9_within x lo hi m = 0 ↔ ¬ (lo.toInt ≤ x.toInt ∧ x.toInt ≤ hi.toInt) := by
  unfold f_X9_within
  by_cases h1 : x < lo
  · rw [if_pos h1]; rw [r_lt] at h1; simp; omega
  · rw [if_neg h1]
    by_cases h2 : hi < x
    · rw [if_pos h2]; rw [r_lt] at h1 h2; simp; omega
    · rw [if_neg h2]; rw [r_lt] at h1 h2; simp; omega
theorem r_inn {x : Int32} {lo hi : Int64} {m : q_Mm} : f_X10_in x.toInt64 lo hi m = 0 ↔ ¬ (lo.toInt ≤ x.toInt ∧ x.toInt ≤ hi.toInt) := by
  unfold f_X10_in
  by_cases h1 : x.toInt64 < lo
  · rw [if_pos h1]; rw [r_ltL, r_64] at h1; simp; omega
  · rw [if_neg h1]
    by_cases h2 : hi < x.toInt64
    · rw [if_pos h2]; rw [r_ltL, r_64] at h1 h2; simp; omega
    · rw [if_neg h2]; rw [r_ltL, r_64] at h1 h2; simp; omega
theorem r_plan9 {x : Int32} {m : q_Mm} : f_X9_isPlan x.toInt64 m = 0 ↔ ¬ (0 ≤ x.toInt ∧ x.toInt ≤ 3) := by
  unfold f_X9_isPlan
  by_cases h1 : x.toInt64 < 0
  · rw [if_pos h1]; rw [r_ltL, r_64] at h1; have : (0 : Int64).toInt = 0 := rfl; simp; omega
  · rw [if_neg h1]
    by_cases h2 : 4 ≤ x.toInt64
    · rw [if_pos h2]; rw [r_ltL, r_64] at h1; rw [r_leL, r_64] at h2; have : (4 : Int64).toInt = 4 := rfl; simp; omega
    · rw [if_neg h2]; rw [r_ltL, r_64] at h1; rw [r_leL, r_64] at h2; have : (0 : Int64).toInt = 0 := rfl; have : (4 : Int64).toInt = 4 := rfl; simp; omega
theorem r_plan10 {x : Int32} {m : q_Mm} : f_X10_isPlan x m = 0 ↔ ¬ (0 ≤ x.toInt ∧ x.toInt ≤ 3) := r_inn
/-- reading behind a write -/
theorem r_wi {m : q_Mm} {a j k i : Nat} {x : Int32} : (q_wi m a j x).1 k i = if k = a ∧ i = j then x else m.1 k i := rfl
theorem r_wl1 {m : q_Mm} {a j : Nat} {x : Int64} : (q_wl m a j x).1 = m.1 := rfl
theorem r_wl2 {m : q_Mm} {a j k i : Nat} {x : Int64} : (q_wl m a j x).2 k i = if k = a ∧ i = j then x else m.2 k i := rfl
theorem r_wi2 {m : q_Mm} {a j : Nat} {x : Int32} : (q_wi m a j x).2 = m.2 := rfl
theorem r_row {m : q_Mm} {a j k : Nat} {x : Int32} (h : ¬ k = a) : (q_wi m a j x).1 k = m.1 k := q_up_row h
/-! PURE: the relation between the class's cells and the reference's -/
/-- plans: p's TURNS are alike, in order -/
def IP (m : q_Mm) : Prop := ∀ p, p < 4 → ∃ c : Nat, c ≤ 12 ∧ m.1 (46 + 3 * p) 2 = nI c ∧ m.1 61 p = nI c ∧
  (∀ i, i < c → m.1 (46 + 3 * p + 1) i = m.1 59 (12 * p + i) ∧ m.1 (46 + 3 * p + 2) i = m.1 60 (12 * p + i) ∧ 0 ≤ (m.1 59 (12 * p + i)).toInt ∧ (m.1 59 (12 * p + i)).toInt ≤ 59 ∧ -4 ≤ (m.1 60 (12 * p + i)).toInt ∧ (m.1 60 (12 * p + i)).toInt ≤ 4) ∧
  ∀ i j, i < j → j < c → (m.1 59 (12 * p + i)).toInt < (m.1 59 (12 * p + j)).toInt
def IS (m : q_Mm) : Prop := ∃ p : Nat, p < 4 ∧ m.1 0 1 = nI p ∧ m.1 58 3 = nI p
def IF (m : q_Mm) : Prop := m.1 2 0 = m.1 58 16 ∧ m.1 2 1 = m.1 58 17 ∧ 0 ≤ (m.1 2 0).toInt ∧ (m.1 2 0).toInt ≤ (m.1 2 1).toInt ∧ (m.1 2 1).toInt ≤ 600
/-- the bits that ship s misses in hour h, out of the first c of the reference's list -/
def mBits (sh ho tu : Nat → Int32) (s : Nat) (h : Nat) : Nat → Int32
  | 0 => 0
  | c + 1 => if sh c = nI s ∧ ho c = nI h then mBits sh ho tu s h c ||| ((1 : Int32) <<< (tu c &&& 31)) else mBits sh ho tu s h c
def IH (m : q_Mm) : Prop := ∃ c k : Nat, c ≤ 9 ∧ k ≤ 20 ∧ m.1 3 1 = nI c ∧ m.1 58 11 = nI c ∧ m.1 3 2 = nI k ∧ m.1 58 15 = nI k ∧
  (∀ i, i < c → m.1 (5 + 2 * i) 0 = m.1 63 i ∧ m.1 (5 + 2 * i) 1 = m.1 64 i ∧ m.1 (5 + 2 * i) 2 = m.1 65 i ∧ m.1 (5 + 2 * i) 3 = m.1 66 i ∧
    -100000 ≤ (m.1 63 i).toInt ∧ (m.1 63 i).toInt ≤ 100000 ∧ -100000 ≤ (m.1 64 i).toInt ∧ (m.1 64 i).toInt ≤ 100000 ∧ 1 ≤ (m.1 65 i).toInt ∧ (m.1 65 i).toInt ≤ 20 ∧ -5 ≤ (m.1 66 i).toInt ∧ (m.1 66 i).toInt ≤ 5) ∧
  (∀ i, i < k → (∃ s : Nat, s < c ∧ m.1 67 i = nI s) ∧ (∃ h : Nat, h < 10 ∧ m.1 68 i = nI h) ∧ ∃ t : Nat, t < 12 ∧ m.1 69 i = nI t) ∧
  (∀ s h, s < 9 → h < 10 → m.1 (5 + 2 * s + 1) h = mBits (m.1 67) (m.1 68) (m.1 69) s h k)
def IG (m : q_Mm) : Prop := ∀ h, h < 10 → m.1 43 h = 0
def IL (m : q_Mm) : Prop := m.1 0 4 = m.1 58 20 ∧ m.1 23 0 = m.1 58 21 ∧ m.1 23 1 = m.1 58 22 ∧ m.1 23 2 = m.1 58 23 ∧ m.1 23 3 = m.1 58 24 ∧
  1 ≤ (m.1 58 20).toInt ∧ (m.1 58 20).toInt ≤ 20 ∧ -2000000 ≤ (m.1 58 21).toInt ∧ (m.1 58 21).toInt ≤ 2000000 ∧ -2000000 ≤ (m.1 58 22).toInt ∧ (m.1 58 22).toInt ≤ 2000000 ∧ 1 ≤ (m.1 58 23).toInt ∧ (m.1 58 23).toInt ≤ 20 ∧ 0 ≤ (m.1 58 24).toInt ∧ (m.1 58 24).toInt ≤ 200000
def IO (m : q_Mm) : Prop := ∃ c : Nat, c ≤ 10 ∧ m.1 28 3 = nI c ∧ m.1 58 34 = nI c ∧ ∀ i, i < c → m.1 29 i = m.1 77 i ∧ m.1 30 i = m.1 78 i ∧ m.1 31 i = m.1 79 i ∧
  -50 ≤ (m.1 77 i).toInt ∧ (m.1 77 i).toInt ≤ 50 ∧ -50 ≤ (m.1 78 i).toInt ∧ (m.1 78 i).toInt ≤ 50 ∧ 1 ≤ (m.1 79 i).toInt ∧ (m.1 79 i).toInt ≤ 40
def ID (m : q_Mm) : Prop := ∀ i, i < 144 → m.1 33 i = m.1 81 i ∧ -1 ≤ (m.1 81 i).toInt ∧ (m.1 81 i).toInt ≤ 99
def IT (m : q_Mm) : Prop := ∃ c : Nat, c ≤ 12 ∧ m.1 38 3 = nI c ∧ m.1 58 47 = nI c ∧ ∀ i, i < c → m.1 39 i = m.1 86 i ∧ m.1 40 i = m.1 87 i ∧ m.1 41 i = m.1 88 i ∧
  0 ≤ (m.1 86 i).toInt ∧ (m.1 86 i).toInt ≤ 600 ∧ -10000000 ≤ (m.1 87 i).toInt ∧ (m.1 87 i).toInt ≤ 10000000 ∧ -10000000 ≤ (m.1 88 i).toInt ∧ (m.1 88 i).toInt ≤ 10000000
/-- how many of the first d steps of a path go to another cell -/
def pMoves (f : Nat → Int32) : Nat → Nat
  | 0 => 0
  | d + 1 => pMoves f d + (if f (d + 1) = f d then 0 else 1)
/-- ROUTE w (0, 1): the Voyage at v, its cells at v + 1 -/
def IR1 (m : q_Mm) (w v : Nat) : Prop := (m.1 v 0 = 0 ∧ m.1 84 w = 0) ∨ (m.1 v 0 = 1 ∧ m.1 84 w = 1 ∧ ∃ d : Nat, d ≤ 40 ∧ m.1 v 2 = nI d ∧ m.1 83 w = nI d ∧ m.1 v 3 = nI (pMoves (m.1 (v + 1)) d) ∧
  ∀ i, i ≤ d → m.1 (v + 1) i = m.1 82 (41 * w + i) ∧ ∃ q : Nat, q < 144 ∧ m.1 (v + 1) i = nI q)
/-- and ROUTE A's days and fuel -/
def IR (m : q_Mm) : Prop := IR1 m 0 34 ∧ IR1 m 1 36 ∧ (m.1 34 0 = 1 → ∃ t f : Nat, t ≤ 40 ∧ f ≤ 40 ∧ m.1 34 4 = nI t ∧ m.1 58 40 = nI t ∧ m.1 34 5 = nI f ∧ m.1 58 41 = nI f ∧ ∀ d : Nat, m.1 34 2 = nI d → d ≤ 40 → d ≤ t ∧ pMoves (m.1 35) d ≤ f)
def Inv (m : q_Mm) : Prop := IP m ∧ IS m ∧ IF m ∧ IH m ∧ IG m ∧ IL m ∧ IO m ∧ ID m ∧ IT m ∧ IR m
