/-! PURE: the steered plan, where ships are; place -/
def Pl (I : Nat → Nat → Int32) (p c : Nat) : Prop := p < 4 ∧ c ≤ 12 ∧ I 0 1 = nI p ∧ I 58 3 = nI p ∧ I (46 + 3 * p) 2 = nI c ∧ I 61 p = nI c ∧
  (∀ i, i < c → I (46 + 3 * p + 1) i = I 59 (12 * p + i) ∧ I (46 + 3 * p + 2) i = I 60 (12 * p + i) ∧ -4 ≤ (I 60 (12 * p + i)).toInt ∧ (I 60 (12 * p + i)).toInt ≤ 4) ∧
  (∀ i j, i < j → j < c → (I 59 (12 * p + i)).toInt < (I 59 (12 * p + j)).toInt) ∧ I 2 0 = I 58 16 ∧ I 2 1 = I 58 17
theorem Pl_of {m : q_Mm} (hI : Inv m) : ∃ p c, Pl m.1 p c := by
  obtain ⟨p, hp, a1, a2⟩ := hI.2.1
  obtain ⟨c, hc, e1, e2, hr, hs⟩ := hI.1 p hp
  exact ⟨p, c, hp, hc, a1, a2, e1, e2, fun i hi => ⟨(hr i hi).1, (hr i hi).2.1, (hr i hi).2.2.2.2.1, (hr i hi).2.2.2.2.2⟩, hs, hI.2.2.1.1, hI.2.2.1.2.1⟩
/-- ship s, alike on both sides -/
def Sp (I : Nat → Nat → Int32) (s : Nat) : Prop := s < 9 ∧ I (5 + 2 * s) 0 = I 63 s ∧ I (5 + 2 * s) 1 = I 64 s ∧ I (5 + 2 * s) 2 = I 65 s ∧ I (5 + 2 * s) 3 = I 66 s ∧ 1 ≤ (I 65 s).toInt ∧ (I 65 s).toInt ≤ 20 ∧ -5 ≤ (I 66 s).toInt ∧ (I 66 s).toInt ≤ 5
def msF (I : Nat → Nat → Int32) (s : Nat) : Nat → Int32 := fun h => if h < 10 then I (5 + 2 * s + 1) h else 0
def cr9 (I : Nat → Nat → Int32) (p c s t : Nat) : Int32 := crs (I 58 16).toInt (I 58 17).toInt (I 66 s).toInt (fun j => I 59 (12 * p + j)) (fun j => I 60 (12 * p + j)) (msF I s) c t
def psX (I : Nat → Nat → Int32) (p c s : Nat) : Nat → Int64
  | 0 => (I 63 s).toInt64
  | t + 1 => psX I p c s t + (vX (cr9 I p c s t)).toInt64 * (I 65 s).toInt64
def psY (I : Nat → Nat → Int32) (p c s : Nat) : Nat → Int64
  | 0 => (I 64 s).toInt64
  | t + 1 => psY I p c s t + (vY (cr9 I p c s t)).toInt64 * (I 65 s).toInt64
theorem cr9_in {I : Nat → Nat → Int32} {p c s t : Nat} (h : Pl I p c) : -4 ≤ (cr9 I p c s t).toInt ∧ (cr9 I p c s t).toInt ≤ 4 := crs_in (fun i hi => ⟨(h.2.2.2.2.2.2.1 i hi).2.2.1, (h.2.2.2.2.2.2.1 i hi).2.2.2⟩)
theorem mv9 {m : q_Mm} {p c s t : Nat} (h : Pl m.1 p c) (hs : Sp m.1 s) (ht : t ≤ 600) : f_X7_move (5 + 2 * s) (46 + 3 * p) (nI t) m = some (q_wl (q_wl m (5 + 2 * s) 5 (m.2 (5 + 2 * s) 5 + (vX (cr9 m.1 p c s t)).toInt64 * (m.1 65 s).toInt64)) (5 + 2 * s) 6 (m.2 (5 + 2 * s) 6 + (vY (cr9 m.1 p c s t)).toInt64 * (m.1 65 s).toInt64)) := by
  have hin := cr9_in (s := s) (t := t) h
  obtain ⟨hp, hc, a1, a2, e1, e2, hr, ho, f1, f2⟩ := h
  obtain ⟨s0, s1, s2, s3, s4, s5, s6, s7, s8⟩ := hs
  have hx := vX_in hin
  have hy := vY_in hin
  have hcc : crs (m.1 2 0).toInt (m.1 2 1).toInt (m.1 (5 + 2 * s) 3).toInt (m.1 (46 + 3 * p + 1)) (m.1 (46 + 3 * p + 2)) (fun h => if h < 10 then m.1 (5 + 2 * s + 1) h else 0) c t = cr9 m.1 p c s t := by
    unfold cr9
    rw [f1, f2, s4]
    exact crs_congr (fun i hi => ⟨(hr i hi).1, (hr i hi).2.1⟩) (fun _ _ => rfl) ht (by omega)
  rw [move9 hc e1 (fun i j hij hj => by rw [(hr i (by omega)).1, (hr j hj).1]; exact ho i j hij hj) (fun i hi => by rw [(hr i hi).2.1]; exact (hr i hi).2.2) (by rw [s4]; omega) ht hcc, s3, mul64 (by omega) (by omega), mul64 (by omega) (by omega)]
theorem st10 {m : q_Mm} {p c s t : Nat} (h : Pl m.1 p c) (hs : Sp m.1 s) (hm : ∀ h, h < 11 → m.1 62 h = msF m.1 s h) (ht : t ≤ 600) : f_X10_step (nI t) (m.1 66 s) (m.1 65 s) m = some (q_wl (q_wl m 58 5 (m.2 58 5 + (vX (cr9 m.1 p c s t)).toInt64 * (m.1 65 s).toInt64)) 58 6 (m.2 58 6 + (vY (cr9 m.1 p c s t)).toInt64 * (m.1 65 s).toInt64)) := by
  obtain ⟨hp, hc, a1, a2, e1, e2, hr, ho, f1, f2⟩ := h
  obtain ⟨s0, s1, s2, s3, s4, s5, s6, s7, s8⟩ := hs
  exact step10 hp a2 hc e2 ⟨s7, s8⟩ ht (crs_congr (fun _ _ => ⟨rfl, rfl⟩) hm ht (by omega))
theorem mBits_hi {sh ho tu : Nat → Int32} {s : Nat} : ∀ k, (∀ i, i < k → ∃ h : Nat, h < 10 ∧ ho i = nI h) → mBits sh ho tu s 10 k = 0 := by
  intro k
  induction k with
  | zero => intro _; rfl
  | succ k ih =>
    intro h
    unfold mBits
    obtain ⟨a, b1, b2⟩ := h k (by omega)
    rw [if_neg (fun e => by
      have e2 := e.2
      rw [b2] at e2
      have := (nI_eq (by omega) (by omega)).mp e2
      omega)]
    exact ih (fun i hi => h i (by omega))
theorem layM_l {sh ho tu : Nat → Int32} {s k : Nat} (hs : s < 9) (hk : k ≤ 20) (hl : ∀ i, i < k → (∃ z : Nat, z < 9 ∧ sh i = nI z) ∧ (∃ h : Nat, h < 10 ∧ ho i = nI h)) : ∀ (n i : Nat), k - i ≤ n → i ≤ k → ∀ (fuel : Nat) (m : q_Mm), n < fuel → m.1 58 15 = nI k → m.1 67 = sh → m.1 68 = ho → m.1 69 = tu → (∀ h, h < 11 → m.1 62 h = mBits sh ho tu s h i) → ∃ m', l_X10_layMisses_6 fuel (nI s) (nI i) m = some m' ∧ m'.2 = m.2 ∧ (∀ q, ¬ q = 62 → m'.1 q = m.1 q) ∧ ∀ h, h < 11 → m'.1 62 h = mBits sh ho tu s h k := by
  intro n
  induction n with
  | zero =>
    intro i h1 h2 fuel m h3 e r1 r2 r3 hb
    obtain ⟨f, rfl⟩ : ∃ f, fuel = f + 1 := ⟨fuel - 1, by omega⟩
    have hik : i = k := by omega
    subst hik
    refine ⟨m, ?_, rfl, fun _ _ => rfl, hb⟩
    unfold l_X10_layMisses_6
    rw [e, if_pos (nI_le (by omega) (by omega))]
  | succ n ih =>
    intro i h1 h2 fuel m h3 e r1 r2 r3 hb
    obtain ⟨f, rfl⟩ : ∃ f, fuel = f + 1 := ⟨fuel - 1, by omega⟩
    by_cases hi : i = k
    · subst hi
      refine ⟨m, ?_, rfl, fun _ _ => rfl, hb⟩
      unfold l_X10_layMisses_6
      rw [e, if_pos (nI_le (by omega) (by omega))]
    · obtain ⟨⟨z, hz, ez⟩, w, hw, ew⟩ := hl i (by omega)
      have go : ∀ x : Int32, (mBits sh ho tu s w i ||| x = mBits sh ho tu s w (i + 1)) → ∃ m', l_X10_layMisses_6 f (nI s) (nI (i + 1)) (q_wi m 62 w (m.1 62 w ||| x)) = some m' ∧ m'.2 = m.2 ∧ (∀ q, ¬ q = 62 → m'.1 q = m.1 q) ∧ ∀ h, h < 11 → m'.1 62 h = mBits sh ho tu s h k := by
        intro x hx
        obtain ⟨m', b1, b2, b3, b4⟩ := ih (i + 1) (by omega) (by omega) f (q_wi m 62 w (m.1 62 w ||| x)) (by omega) (by rw [r_row (by decide)]; exact e) (by rw [r_row (by decide)]; exact r1) (by rw [r_row (by decide)]; exact r2) (by rw [r_row (by decide)]; exact r3) (by
          intro h hh
          rw [r_wi]
          by_cases hw2 : h = w
          · rw [if_pos ⟨rfl, hw2⟩, hw2, hb w (by omega), hx]
          · rw [if_neg (fun q => hw2 q.2), hb h hh]
            have : mBits sh ho tu s h (i + 1) = if sh i = nI s ∧ ho i = nI h then mBits sh ho tu s h i ||| ((1 : Int32) <<< (tu i &&& 31)) else mBits sh ho tu s h i := rfl
            rw [this, if_neg (fun q => by
              have q2 := q.2
              rw [ew] at q2
              have := (nI_eq (by omega) (by omega)).mp q2
              omega)])
        exact ⟨m', b1, b2, fun q hq => by rw [b3 q hq, r_row hq], b4⟩
      have pe : mBits sh ho tu s w (i + 1) = if sh i = nI s ∧ ho i = nI w then mBits sh ho tu s w i ||| ((1 : Int32) <<< (tu i &&& 31)) else mBits sh ho tu s w i := rfl
      unfold l_X10_layMisses_6
      rw [e, if_neg (nI_ge (by omega) (by omega)), r_in (show i < 20 by omega) (by decide), r_cl (show i < 2 ^ 31 by omega), r1, r2, r3, ew, r_in (show w < 11 by omega) (by decide), r_cl (show w < 2 ^ 31 by omega), nI_1]
      simp only [if_true]
      by_cases hzs : sh i = nI s
      · rw [if_pos hzs]
        exact go _ (by rw [pe, if_pos ⟨hzs, ew⟩])
      · rw [if_neg hzs]
        exact go 0 (by
          rw [pe, if_neg (fun q => hzs q.1)]
          exact b_ext (fun j hj => by rw [b_or, b_0, Bool.or_false]))
theorem layM10 {m : q_Mm} (hI : Inv m) {s : Nat} (hs : s < 9) : ∃ m', f_X10_layMisses (nI s) m = some m' ∧ m'.2 = m.2 ∧ (∀ q, ¬ q = 62 → m'.1 q = m.1 q) ∧ ∀ h, h < 11 → m'.1 62 h = msF m.1 s h := by
  obtain ⟨c, k, hc, hk, e1, e2, e3, e4, hr, hl, hb⟩ := hI.2.2.2.1
  obtain ⟨m0, a1, a2, a3, a4⟩ := missNone10 m
  obtain ⟨m', b1, b2, b3, b4⟩ := layM_l (sh := m.1 67) (ho := m.1 68) (tu := m.1 69) hs hk (fun i hi => by
    obtain ⟨⟨z, hz, ez⟩, hh, _⟩ := hl i hi
    exact ⟨⟨z, by omega, ez⟩, hh⟩) k 0 (by omega) (by omega) 7000 m0 (by omega) (by rw [a3 58 (by decide)]; exact e4) (a3 67 (by decide)) (a3 68 (by decide)) (a3 69 (by decide)) (fun h hh => a4 h hh)
  refine ⟨m', ?_, by rw [b2, a2], fun q hq => by rw [b3 q hq, a3 q hq], fun h hh => ?_⟩
  · unfold f_X10_layMisses
    rw [a1, Option.bind_some, show l_X10_layMisses_6 7000 (nI s) 0 m0 = some m' from b1]
    rfl
  · rw [b4 h hh]
    unfold msF
    by_cases h10 : h < 10
    · rw [if_pos h10, hb s h hs h10]
    · rw [if_neg h10, show h = 10 by omega]
      exact mBits_hi k (fun i hi => (hl i hi).2.1)
theorem place_l9 {I : Nat → Nat → Int32} {p c s T : Nat} (h : Pl I p c) (hs : Sp I s) (hT : T ≤ 600) (y : Int32) : ∀ (n t : Nat), T - t ≤ n → t ≤ T → ∀ (fuel : Nat) (m : q_Mm), n < fuel → m.1 = I → m.2 (5 + 2 * s) 5 = psX I p c s t → m.2 (5 + 2 * s) 6 = psY I p c s t → ∃ m', l_X9_place_55 fuel (5 + 2 * s) (nI T) y (nI t) m = some m' ∧ m'.1 = I ∧ m'.2 (5 + 2 * s) 5 = psX I p c s T ∧ m'.2 (5 + 2 * s) 6 = psY I p c s T := by
  intro n
  induction n with
  | zero =>
    intro t h1 h2 fuel m h3 e x1 x2
    obtain ⟨f, rfl⟩ : ∃ f, fuel = f + 1 := ⟨fuel - 1, by omega⟩
    refine ⟨m, ?_, e, by rw [x1, show t = T by omega], by rw [x2, show t = T by omega]⟩
    unfold l_X9_place_55
    rw [if_pos (nI_le (by omega) (by omega))]
  | succ n ih =>
    intro t h1 h2 fuel m h3 e x1 x2
    obtain ⟨f, rfl⟩ : ∃ f, fuel = f + 1 := ⟨fuel - 1, by omega⟩
    unfold l_X9_place_55
    by_cases ht : t = T
    · refine ⟨m, ?_, e, by rw [x1, ht], by rw [x2, ht]⟩
      rw [if_pos (nI_le (by omega) (by omega))]
    · subst e
      rw [if_neg (nI_ge (by omega) (by omega)), h.2.2.1, if_pos (r_in h.1 (by decide)), r_cl (by have := h.1; omega), mv9 h hs (by omega), Option.bind_some, nI_1]
      exact ih (t + 1) (by omega) (by omega) f _ (by omega) rfl (by
        rw [r_wl2, if_neg (by omega), r_wl2, if_pos ⟨rfl, rfl⟩, x1]; rfl) (by
        rw [r_wl2, if_pos ⟨rfl, rfl⟩, x2]; rfl)
theorem place_l10 {I : Nat → Nat → Int32} {p c s T : Nat} (h : Pl I p c) (hs : Sp I s) (hm : ∀ h, h < 11 → I 62 h = msF I s h) (hT : T ≤ 600) (y : Int32) : ∀ (n t : Nat), T - t ≤ n → t ≤ T → ∀ (fuel : Nat) (m : q_Mm), n < fuel → m.1 = I → m.2 58 5 = psX I p c s t → m.2 58 6 = psY I p c s t → ∃ m', l_X10_place_76 fuel (nI s) (nI T) y (nI t) m = some m' ∧ m'.1 = I ∧ m'.2 58 5 = psX I p c s T ∧ m'.2 58 6 = psY I p c s T := by
  intro n
  induction n with
  | zero =>
    intro t h1 h2 fuel m h3 e x1 x2
    obtain ⟨f, rfl⟩ : ∃ f, fuel = f + 1 := ⟨fuel - 1, by omega⟩
    refine ⟨m, ?_, e, by rw [x1, show t = T by omega], by rw [x2, show t = T by omega]⟩
    unfold l_X10_place_76
    rw [if_pos (nI_le (by omega) (by omega))]
  | succ n ih =>
    intro t h1 h2 fuel m h3 e x1 x2
    obtain ⟨f, rfl⟩ : ∃ f, fuel = f + 1 := ⟨fuel - 1, by omega⟩
    unfold l_X10_place_76
    by_cases ht : t = T
    · refine ⟨m, ?_, e, by rw [x1, ht], by rw [x2, ht]⟩
      rw [if_pos (nI_le (by omega) (by omega))]
    · subst e
      rw [if_neg (nI_ge (by omega) (by omega)), if_pos (r_in hs.1 (by decide)), if_pos (r_in hs.1 (by decide)), r_cl (by have := hs.1; omega), st10 h hs hm (by omega), Option.bind_some, nI_1]
      exact ih (t + 1) (by omega) (by omega) f _ (by omega) rfl (by
        rw [r_wl2, if_neg (by omega), r_wl2, if_pos ⟨rfl, rfl⟩, x1]; rfl) (by
        rw [r_wl2, if_pos ⟨rfl, rfl⟩, x2]; rfl)
