/-! PURE: the course in a minute -/
/-- the COURSE by the first c TURNS, at a minute of the hour, the bits ms being missed -/
def hd (mi co : Nat → Int32) (mo ms : Int32) : Nat → Int32
  | 0 => 0
  | c + 1 => if mi c ≤ mo ∧ bt ms c = false then co c else hd mi co mo ms c
theorem hd_congr {mi co mi' co' : Nat → Int32} {mo ms : Int32} : ∀ c, (∀ i, i < c → mi' i = mi i ∧ co' i = co i) → hd mi' co' mo ms c = hd mi co mo ms c := by
  intro c
  induction c with
  | zero => intro _; rfl
  | succ c ih =>
    intro h
    unfold hd
    rw [ih (fun i hi => h i (by omega)), (h c (by omega)).1, (h c (by omega)).2]
theorem hd_stop {mi co : Nat → Int32} {mo ms : Int32} {i : Nat} : ∀ c, i ≤ c → (∀ j, i ≤ j → j < c → mo < mi j) → hd mi co mo ms c = hd mi co mo ms i := by
  intro c
  induction c with
  | zero => intro h _; rw [show i = 0 by omega]
  | succ c ih =>
    intro h hh
    by_cases hc : i = c + 1
    · rw [hc]
    · rw [show hd mi co mo ms (c + 1) = if mi c ≤ mo ∧ bt ms c = false then co c else hd mi co mo ms c from rfl, if_neg (fun e => by
        have h1 := hh c (by omega) (by omega)
        have h2 := e.1
        rw [r_lt] at h1
        rw [r_le] at h2
        omega)]
      exact ih (by omega) (fun j h1 h2 => hh j h1 (by omega))
theorem heading_l {m : q_Mm} {a c : Nat} {mo ms : Int32} (hc : c ≤ 12) (e : m.1 a 2 = nI c) (hs : ∀ i j, i < j → j < c → (m.1 (a + 1) i).toInt < (m.1 (a + 1) j).toInt) : ∀ (n i : Nat), c - i ≤ n → i ≤ c → ∀ fuel, n < fuel → l_X5_heading_5 fuel a mo ms (hd (m.1 (a + 1)) (m.1 (a + 2)) mo ms i) (nI i) m = some (hd (m.1 (a + 1)) (m.1 (a + 2)) mo ms c) := by
  intro n
  induction n with
  | zero =>
    intro i h1 h2 fuel h3
    obtain ⟨f, rfl⟩ : ∃ f, fuel = f + 1 := ⟨fuel - 1, by omega⟩
    unfold l_X5_heading_5
    rw [e, if_pos (nI_le (by omega) (by omega)), show i = c by omega]
  | succ n ih =>
    intro i h1 h2 fuel h3
    obtain ⟨f, rfl⟩ : ∃ f, fuel = f + 1 := ⟨fuel - 1, by omega⟩
    unfold l_X5_heading_5
    by_cases hi : i = c
    · rw [e, if_pos (nI_le (by omega) (by omega)), hi]
    · rw [e, if_neg (nI_ge (by omega) (by omega)), r_in (show i < 12 by omega) (by decide), r_cl (by omega), nI_1]
      simp only [if_true]
      have go := ih (i + 1) (by omega) (by omega) f (by omega)
      have pe : hd (m.1 (a + 1)) (m.1 (a + 2)) mo ms (i + 1) = if m.1 (a + 1) i ≤ mo ∧ bt ms i = false then m.1 (a + 2) i else hd (m.1 (a + 1)) (m.1 (a + 2)) mo ms i := rfl
      by_cases hx : mo < m.1 (a + 1) i
      · rw [if_pos hx, hd_stop c (show i ≤ c by omega) (fun j j1 j2 => by
          rw [r_lt] at hx ⊢
          rcases Nat.lt_or_ge i j with z | z
          · have := hs i j z j2
            omega
          · rw [show j = i by omega]; exact hx)]
      · rw [if_neg hx]
        have hle : m.1 (a + 1) i ≤ mo := by rw [r_le]; rw [r_lt] at hx; omega
        by_cases hb : (ms >>> (nI i &&& 31)) &&& 1 = 0
        · rw [if_pos hb]
          rw [pe, if_pos ⟨hle, (bt_test0 (by omega)).mp hb⟩] at go
          exact go
        · rw [if_neg hb]
          rw [pe, if_neg (fun z => hb ((bt_test0 (by omega)).mpr z.2))] at go
          exact go
theorem heading9 {m : q_Mm} {a c : Nat} {mo ms : Int32} (hc : c ≤ 12) (e : m.1 a 2 = nI c) (hs : ∀ i j, i < j → j < c → (m.1 (a + 1) i).toInt < (m.1 (a + 1) j).toInt) : f_X5_heading a mo ms m = some (hd (m.1 (a + 1)) (m.1 (a + 2)) mo ms c) := by
  unfold f_X5_heading
  rw [show l_X5_heading_5 7000 a mo ms 0 0 m = some (hd (m.1 (a + 1)) (m.1 (a + 2)) mo ms c) from heading_l hc e hs c 0 (by omega) (by omega) 7000 (by omega)]
  rfl
theorem courseAt_l {m : q_Mm} {p c h : Nat} {rk mo : Int32} (hp : p < 4) (hc : c ≤ 12) (e : m.1 61 p = nI c) (hh : h < 11) (er : q_rm rk 60 = mo) : ∀ (n i : Nat), c - i ≤ n → i ≤ c → ∀ fuel, n < fuel → l_X10_courseAt_17 fuel (nI p) rk (hd (fun j => m.1 59 (12 * p + j)) (fun j => m.1 60 (12 * p + j)) mo (m.1 62 h) i) (nI h) (nI i) m = some (hd (fun j => m.1 59 (12 * p + j)) (fun j => m.1 60 (12 * p + j)) mo (m.1 62 h) c) := by
  intro n
  induction n with
  | zero =>
    intro i h1 h2 fuel h3
    obtain ⟨f, rfl⟩ : ∃ f, fuel = f + 1 := ⟨fuel - 1, by omega⟩
    unfold l_X10_courseAt_17
    rw [r_in hp (by decide), r_cl (by omega), e, if_pos rfl, if_pos (nI_le (by omega) (by omega)), show i = c by omega]
  | succ n ih =>
    intro i h1 h2 fuel h3
    obtain ⟨f, rfl⟩ : ∃ f, fuel = f + 1 := ⟨fuel - 1, by omega⟩
    unfold l_X10_courseAt_17
    rw [r_in hp (by decide), r_cl (show p < 2 ^ 31 by omega), e, if_pos rfl]
    by_cases hi : i = c
    · rw [if_pos (nI_le (by omega) (by omega)), hi]
    · rw [if_neg (nI_ge (by omega) (by omega)), r12p, r_in (show 12 * p + i < 48 by omega) (by decide), r_in hh (by decide), r_cl (show 12 * p + i < 2 ^ 31 by omega), r_cl (show h < 2 ^ 31 by omega), nI_1, er]
      simp only [if_true, show ¬ (1 : Int32) = 0 by decide, if_false]
      have go := ih (i + 1) (by omega) (by omega) f (by omega)
      have pe : hd (fun j => m.1 59 (12 * p + j)) (fun j => m.1 60 (12 * p + j)) mo (m.1 62 h) (i + 1) = if m.1 59 (12 * p + i) ≤ mo ∧ bt (m.1 62 h) i = false then m.1 60 (12 * p + i) else hd (fun j => m.1 59 (12 * p + j)) (fun j => m.1 60 (12 * p + j)) mo (m.1 62 h) i := rfl
      by_cases hx : mo < m.1 59 (12 * p + i)
      · rw [if_pos hx]
        rw [pe, if_neg (fun z => by
          have h1 := z.1
          rw [r_lt] at hx
          rw [r_le] at h1
          omega)] at go
        exact go
      · rw [if_neg hx]
        have hle : m.1 59 (12 * p + i) ≤ mo := by rw [r_le]; rw [r_lt] at hx; omega
        by_cases hb : (m.1 62 h >>> (nI i &&& 31)) &&& 1 = 0
        · rw [if_pos hb]
          rw [pe, if_pos ⟨hle, (bt_test0 (by omega)).mp hb⟩] at go
          exact go
        · rw [if_neg hb]
          rw [pe, if_neg (fun z => hb ((bt_test0 (by omega)).mpr z.2))] at go
          exact go
theorem rem60 {r : Nat} (h : r < 2 ^ 31) : q_rm (nI r) 60 = nI (r % 60) := pk_rem (d := 60) h (by decide) (by decide)
theorem div60 {r : Nat} (h : r < 2 ^ 31) : nI r / 60 = nI (r / 60) := pk_div (d := 60) h (by decide) (by decide)
theorem courseAt10 {m : q_Mm} {p c r : Nat} (hp : p < 4) (hc : c ≤ 12) (e : m.1 61 p = nI c) (hr : r < 660) : f_X10_courseAt (nI p) (nI r) m = some (hd (fun j => m.1 59 (12 * p + j)) (fun j => m.1 60 (12 * p + j)) (nI (r % 60)) (m.1 62 (r / 60)) c) := by
  unfold f_X10_courseAt
  rw [if_pos (nI_pos' (by omega)), div60 (by omega), show l_X10_courseAt_17 7000 (nI p) (nI r) 0 (nI (r / 60)) 0 m = some (hd (fun j => m.1 59 (12 * p + j)) (fun j => m.1 60 (12 * p + j)) (nI (r % 60)) (m.1 62 (r / 60)) c) from courseAt_l hp hc e (by omega) (rem60 (by omega)) c 0 (by omega) (by omega) 7000 (by omega)]
  rfl
theorem missNone_l : ∀ (n i : Nat), 11 - i ≤ n → i ≤ 11 → ∀ (fuel : Nat) (m : q_Mm), n < fuel → ∃ m', l_X10_missNone_2 fuel (nI i) m = some m' ∧ m'.2 = m.2 ∧ (∀ k, ¬ k = 62 → m'.1 k = m.1 k) ∧ (∀ h, h < i → m'.1 62 h = m.1 62 h) ∧ ∀ h, i ≤ h → h < 11 → m'.1 62 h = 0 := by
  intro n
  induction n with
  | zero =>
    intro i h1 h2 fuel m h3
    obtain ⟨f, rfl⟩ : ∃ f, fuel = f + 1 := ⟨fuel - 1, by omega⟩
    refine ⟨m, ?_, rfl, fun _ _ => rfl, fun _ _ => rfl, fun h h4 h5 => by omega⟩
    unfold l_X10_missNone_2
    rw [if_pos (show (11 : Int32) ≤ nI i from nI_le (a := 11) (by omega) (by omega))]
  | succ n ih =>
    intro i h1 h2 fuel m h3
    obtain ⟨f, rfl⟩ : ∃ f, fuel = f + 1 := ⟨fuel - 1, by omega⟩
    by_cases hi : i = 11
    · subst hi
      refine ⟨m, ?_, rfl, fun _ _ => rfl, fun _ _ => rfl, fun h h4 h5 => by omega⟩
      unfold l_X10_missNone_2
      rw [if_pos (by decide)]
    · obtain ⟨m', a1, a2, a3, a4, a5⟩ := ih (i + 1) (by omega) (by omega) f (q_wi m 62 i 0) (by omega)
      refine ⟨m', ?_, a2, fun k hk => by rw [a3 k hk, r_row hk], fun h hh => by rw [a4 h (by omega), r_wi, if_neg (by omega)], fun h h4 h5 => ?_⟩
      · unfold l_X10_missNone_2
        rw [if_neg (show ¬ (11 : Int32) ≤ nI i from nI_ge (b := 11) (by omega) (by omega)), if_pos (r_in (by omega) (by decide)), r_cl (by omega), nI_1]
        exact a1
      · by_cases hih : h = i
        · rw [a4 h (by omega), r_wi, if_pos ⟨rfl, hih⟩]
        · exact a5 h (by omega) h5
theorem missNone10 (m : q_Mm) : ∃ m', f_X10_missNone m = some m' ∧ m'.2 = m.2 ∧ (∀ k, ¬ k = 62 → m'.1 k = m.1 k) ∧ ∀ h, h < 11 → m'.1 62 h = 0 := by
  obtain ⟨m', a1, a2, a3, a4, a5⟩ := missNone_l 11 0 (by omega) (by omega) 7000 m (by omega)
  refine ⟨m', ?_, a2, a3, fun h hh => a5 h (Nat.zero_le _) hh⟩
  unfold f_X10_missNone
  rw [show l_X10_missNone_2 7000 0 m = some m' from a1]
  rfl
theorem ok_course : q_OK_course Inv := by
  intro x1 x2 m hI
  by_cases g1 : 0 ≤ x1.toInt ∧ x1.toInt ≤ 3
  · by_cases g2 : 0 ≤ x2.toInt ∧ x2.toInt ≤ 600
    · obtain ⟨p, hp, rfl⟩ := r_plan g1
      obtain ⟨t, ht, rfl⟩ := r_of g2.1 (n := 601) (by omega) (by decide)
      obtain ⟨c, hc, e1, e2, hr, hs⟩ := hI.1 p hp
      obtain ⟨m', a1, a2, a3, a4⟩ := missNone10 m
      have hi := r_in (k := p) (n := 4) hp (by decide)
      refine ⟨hd (m.1 (46 + 3 * p + 1)) (m.1 (46 + 3 * p + 2)) (nI (t % 60)) 0 c, m', ?_, ?_, Inv_s (s_X10_missNone a1) hI⟩
      · unfold f_X9_course
        rw [if_neg (fun e => r_plan9.mp e g1), if_neg (show ¬ f_X9_within (nI t) 0 600 m = 0 from fun e => r_within.mp e g2), if_pos hi, r_cl (by omega), rem60 (by omega), heading9 hc e1 (fun i j hij hj => by rw [(hr i (by omega)).1, (hr j hj).1]; exact hs i j hij hj)]
        rfl
      · unfold f_X10_course
        rw [if_neg (fun e => r_plan10.mp e g1), if_neg (show ¬ f_X10_in (nI t).toInt64 0 600 m = 0 from fun e => r_inn.mp e g2), a1]
        dsimp only [Option.bind_some]
        rw [courseAt10 hp hc (by rw [a3 61 (by decide)]; exact e2) (by omega), a4 (t / 60) (by omega), a3 59 (by decide), a3 60 (by decide)]
        dsimp only [Option.bind_some]
        rw [hd_congr c (fun i hi => ⟨(hr i hi).1.symm, (hr i hi).2.1.symm⟩)]
    · refine ⟨-102, m, ?_, ?_, hI⟩
      · unfold f_X9_course
        rw [if_neg (fun e => r_plan9.mp e g1), if_pos (show f_X9_within x2 0 600 m = 0 from r_within.mpr g2)]
      · unfold f_X10_course
        rw [if_neg (fun e => r_plan10.mp e g1), if_pos (show f_X10_in x2.toInt64 0 600 m = 0 from r_inn.mpr g2)]
  · refine ⟨-101, m, ?_, ?_, hI⟩
    · unfold f_X9_course
      rw [if_pos (r_plan9.mpr g1)]
    · unfold f_X10_course
      rw [if_pos (r_plan10.mpr g1)]
