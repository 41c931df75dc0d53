/-! PURE: ground, comes -/
theorem r_rowL {m : q_Mm} {a j k : Nat} {x : Int64} (h : ¬ k = a) : (q_wl m a j x).2 k = m.2 k := q_up_row h
def gX (I : Nat → Nat → Int32) (p c n : Nat) : Int64 := gr vX (fun j => I 59 (12 * p + j)) (fun j => I 60 (12 * p + j)) c n
def gY (I : Nat → Nat → Int32) (p c n : Nat) : Int64 := gr vY (fun j => I 59 (12 * p + j)) (fun j => I 60 (12 * p + j)) c n
theorem gX_s {I : Nat → Nat → Int32} {p c n : Nat} : gX I p c (n + 1) = gX I p c n + (vX (hd (fun j => I 59 (12 * p + j)) (fun j => I 60 (12 * p + j)) (nI (n % 60)) 0 c)).toInt64 := rfl
theorem gY_s {I : Nat → Nat → Int32} {p c n : Nat} : gY I p c (n + 1) = gY I p c n + (vY (hd (fun j => I 59 (12 * p + j)) (fun j => I 60 (12 * p + j)) (nI (n % 60)) 0 c)).toInt64 := rfl
theorem Pn_62 {I I' : Nat → Nat → Int32} {p c : Nat} (h : ∀ q, ¬ q = 62 → I' q = I q) (hp : Pn I p c) : Pn I' p c := by
  have h4 := hp.1
  unfold Pn
  rw [h (46 + 3 * p) (by omega), h 61 (by decide), h (46 + 3 * p + 1) (by omega), h (46 + 3 * p + 2) (by omega), h 59 (by decide), h 60 (by decide)]
  exact hp
theorem gX_62 {I I' : Nat → Nat → Int32} {p c n : Nat} (h : ∀ q, ¬ q = 62 → I' q = I q) : gX I' p c n = gX I p c n := by
  unfold gX
  rw [h 59 (by decide), h 60 (by decide)]
theorem gY_62 {I I' : Nat → Nat → Int32} {p c n : Nat} (h : ∀ q, ¬ q = 62 → I' q = I q) : gY I' p c n = gY I p c n := by
  unfold gY
  rw [h 59 (by decide), h 60 (by decide)]
/-- no misses laid -/
def M0 (I : Nat → Nat → Int32) : Prop := ∀ h, h < 11 → I 62 h = 0
theorem go0 {α : Type} {m : q_Mm} {p c t : Nat} {sp : Int32} (h : Pn m.1 p c) (h0 : M0 m.1) (ht : t ≤ 600) {k : q_Mm → Option α} : ((f_X10_courseAt (nI p) (nI t) m).bind fun r => k (f_X10_go r sp m)) = k (q_wl (q_wl m 58 5 (m.2 58 5 + (vX (hd (fun j => m.1 59 (12 * p + j)) (fun j => m.1 60 (12 * p + j)) (nI (t % 60)) 0 c)).toInt64 * sp.toInt64)) 58 6 (m.2 58 6 + (vY (hd (fun j => m.1 59 (12 * p + j)) (fun j => m.1 60 (12 * p + j)) (nI (t % 60)) 0 c)).toInt64 * sp.toInt64)) := by
  rw [courseAt10 h.1 h.2.1 h.2.2.2.1 (by omega), Option.bind_some, h0 _ (by omega), go10]
theorem runPlan10 {m : q_Mm} {p c T : Nat} {sp : Int32} (h : Pn m.1 p c) (hT : T ≤ 600) : ∃ m', f_X10_runPlan (nI p) (nI T) sp m = some m' ∧ (∀ k, ¬ k = 62 → m'.1 k = m.1 k) ∧ m'.2 58 5 = gX m.1 p c T * sp.toInt64 ∧ m'.2 58 6 = gY m.1 p c T * sp.toInt64 ∧ ∀ k, ¬ k = 58 → m'.2 k = m.2 k := by
  obtain ⟨m0, a1, a2, a3, a4⟩ := missNone10 m
  have h' := Pn_62 a3 h
  obtain ⟨m', e, b1, b2, b3, b4⟩ := qlp7 (fun f i (s : q_Mm) => l_X10_runPlan_17 f (nI p) (nI T) sp (nI i) s) T 0 (q_wl (q_wl m0 58 5 0) 58 6 0)
    (fun i s => s.1 = m0.1 ∧ s.2 58 5 = gX m0.1 p c i * sp.toInt64 ∧ s.2 58 6 = gY m0.1 p c i * sp.toInt64 ∧ ∀ k, ¬ k = 58 → s.2 k = m.2 k) (fun s => s) (by omega) (by omega)
    ⟨rfl, by
      rw [r_wl2, if_neg (by omega), r_wl2, if_pos ⟨rfl, rfl⟩, show gX m0.1 p c 0 = 0 from rfl]
      grind, by
      rw [r_wl2, if_pos ⟨rfl, rfl⟩, show gY m0.1 p c 0 = 0 from rfl]
      grind, fun k hk => by rw [r_rowL hk, r_rowL hk, a2]⟩
    (fun f s hs => by
      show l_X10_runPlan_17 (f + 1) _ _ _ _ _ = _
      unfold l_X10_runPlan_17
      rw [if_pos (nI_le (Nat.le_refl _) (by omega))])
    (fun f i s hi hs => by
      obtain ⟨s1, s2, s3, s4⟩ := hs
      refine ⟨q_wl (q_wl s 58 5 (s.2 58 5 + (vX (hd (fun j => s.1 59 (12 * p + j)) (fun j => s.1 60 (12 * p + j)) (nI (i % 60)) 0 c)).toInt64 * sp.toInt64)) 58 6 (s.2 58 6 + (vY (hd (fun j => s.1 59 (12 * p + j)) (fun j => s.1 60 (12 * p + j)) (nI (i % 60)) 0 c)).toInt64 * sp.toInt64), ?_, ?_⟩
      · show l_X10_runPlan_17 (f + 1) _ _ _ _ _ = l_X10_runPlan_17 f _ _ _ _ _
        conv => lhs; unfold l_X10_runPlan_17
        rw [if_neg (nI_ge hi (by omega)), go0 (by rw [s1]; exact h') (by rw [s1]; exact a4) (by omega) (k := fun z => l_X10_runPlan_17 f (nI p) (nI T) sp (nI i + 1) z), nI_1]
      · refine ⟨s1, ?_, ?_, fun k hk => by rw [r_rowL hk, r_rowL hk, s4 k hk]⟩
        · rw [r_wl2, if_neg (by omega), r_wl2, if_pos ⟨rfl, rfl⟩, s2, gX_s, s1]
          grind
        · rw [r_wl2, if_pos ⟨rfl, rfl⟩, s3, gY_s, s1]
          grind)
  refine ⟨m', ?_, fun k hk => by rw [b1, a3 k hk], by rw [b2, gX_62 a3], by rw [b3, gY_62 a3], b4⟩
  unfold f_X10_runPlan
  rw [a1, Option.bind_some, show l_X10_runPlan_17 7000 (nI p) (nI T) sp 0 (q_wl (q_wl m0 58 5 0) 58 6 0) = some m' from e]
  rfl
theorem ok_ground : q_OK_ground Inv := by
  intro x1 x2 x3 m hI
  by_cases g1 : 0 ≤ x1.toInt ∧ x1.toInt ≤ 3
  · by_cases g2 : 0 ≤ x2.toInt ∧ x2.toInt ≤ 600
    · by_cases g3 : 0 ≤ x3.toInt ∧ x3.toInt ≤ 1
      · obtain ⟨p, hp, rfl⟩ := r_plan g1
        obtain ⟨t, ht, rfl⟩ := r_of g2.1 (n := 601) (by omega) (by decide)
        obtain ⟨c, hP⟩ := Pn_of hI hp
        obtain ⟨m', a1, a2, a3, a4, a5⟩ := runPlan10 (sp := 1) hP (show t ≤ 600 by omega)
        have one : ∀ x : Int64, x * (1 : Int32).toInt64 = x := fun x => by
          rw [show (1 : Int32).toInt64 = 1 from rfl, Int64.mul_one]
        rw [one] at a3 a4
        have u9 : ∀ r, f_X5_gain (46 + 3 * p) (nI t) x3 m = some r → f_X9_ground (nI p) (nI t) x3 m = some r := by
          intro r hr
          unfold f_X9_ground
          rw [if_neg (fun e => r_plan9.mp e g1), if_neg (show ¬ f_X9_within (nI t) 0 600 m = 0 from fun e => r_within.mp e g2), if_neg (show ¬ f_X9_within x3 0 1 m = 0 from fun e => r_within.mp e g3), if_pos (r_in hp (by decide)), r_cl (by omega), hr, Option.bind_some]
        have u10 : f_X10_ground (nI p) (nI t) x3 m = if x3 = 0 then some (m'.2 58 5, m') else some (m'.2 58 6, m') := by
          unfold f_X10_ground
          rw [if_neg (fun e => r_plan10.mp e g1), if_neg (show ¬ f_X10_in (nI t).toInt64 0 600 m = 0 from fun e => r_inn.mp e g2), if_neg (show ¬ f_X10_in x3.toInt64 0 1 m = 0 from fun e => r_inn.mp e g3), a1, Option.bind_some]
        by_cases z : x3 = 0
        · subst z
          rw [if_pos rfl, a3] at u10
          exact ⟨_, _, u9 _ (gainX hP (by omega)), u10, Inv_s (s_X10_ground u10) hI⟩
        · have z1 : x3 = 1 := by
            rw [r_eq] at z ⊢
            have : (0 : Int32).toInt = 0 := rfl
            have : (1 : Int32).toInt = 1 := rfl
            omega
          subst z1
          rw [if_neg z, a4] at u10
          exact ⟨_, _, u9 _ (gainY hP (by omega)), u10, Inv_s (s_X10_ground u10) hI⟩
      · refine ⟨-1000000000002, m, ?_, ?_, hI⟩
        · unfold f_X9_ground
          rw [if_neg (fun e => r_plan9.mp e g1), if_neg (show ¬ f_X9_within x2 0 600 m = 0 from fun e => r_within.mp e g2), if_pos (show f_X9_within x3 0 1 m = 0 from r_within.mpr g3)]
        · unfold f_X10_ground
          rw [if_neg (fun e => r_plan10.mp e g1), if_neg (show ¬ f_X10_in x2.toInt64 0 600 m = 0 from fun e => r_inn.mp e g2), if_pos (show f_X10_in x3.toInt64 0 1 m = 0 from r_inn.mpr g3)]
    · refine ⟨-1000000000002, m, ?_, ?_, hI⟩
      · unfold f_X9_ground
        rw [if_neg (fun e => r_plan9.mp e g1), if_pos (show f_X9_within x2 0 600 m = 0 from r_within.mpr g2)]
      · unfold f_X10_ground
        rw [if_neg (fun e => r_plan10.mp e g1), if_pos (show f_X10_in x2.toInt64 0 600 m = 0 from r_inn.mpr g2)]
  · refine ⟨-1000000000001, m, ?_, ?_, hI⟩
    · unfold f_X9_ground
      rw [if_pos (r_plan9.mpr g1)]
    · unfold f_X10_ground
      rw [if_pos (r_plan10.mpr g1)]
theorem comes_l {m : q_Mm} {p c : Nat} (h : Pn m.1 p c) (hL : IL m) : ∀ (n i : Nat), 601 - i ≤ n → i ≤ 601 → ∀ (fuel fuel' : Nat) (s : q_Mm), n < fuel → n < fuel' → (∀ q, ¬ q = 62 → s.1 q = m.1 q) → M0 s.1 → s.2 58 5 = gX m.1 p c i * (m.1 58 20).toInt64 → s.2 58 6 = gY m.1 p c i * (m.1 58 20).toInt64 → ∃ s', (l_X9_comes_12 fuel (nI p) (nI i) m = some (.inr ()) ∧ l_X10_comes_25 fuel' (nI p) (nI i) s = some (.inr s')) ∨ ∃ t, l_X9_comes_12 fuel (nI p) (nI i) m = some (.inl t) ∧ l_X10_comes_25 fuel' (nI p) (nI i) s = some (.inl (t, s')) := by
  intro n
  have hp := h.1
  induction n with
  | zero =>
    intro i h1 h2 fuel fuel' s h3 h4 b1 b2 b3 b4
    obtain ⟨f, rfl⟩ : ∃ f, fuel = f + 1 := ⟨fuel - 1, by omega⟩
    obtain ⟨f', rfl⟩ : ∃ f', fuel' = f' + 1 := ⟨fuel' - 1, by omega⟩
    refine ⟨s, Or.inl ⟨?_, ?_⟩⟩
    · unfold l_X9_comes_12
      rw [if_pos (show (600 : Int32) < nI i by rw [r_lt, r_nI (by omega), show (600 : Int32).toInt = 600 from rfl]; omega)]
    · unfold l_X10_comes_25
      rw [if_pos (show (600 : Int32) < nI i by rw [r_lt, r_nI (by omega), show (600 : Int32).toInt = 600 from rfl]; omega)]
  | succ n ih =>
    intro i h1 h2 fuel fuel' s h3 h4 b1 b2 b3 b4
    obtain ⟨f, rfl⟩ : ∃ f, fuel = f + 1 := ⟨fuel - 1, by omega⟩
    obtain ⟨f', rfl⟩ : ∃ f', fuel' = f' + 1 := ⟨fuel' - 1, by omega⟩
    unfold l_X9_comes_12 l_X10_comes_25
    by_cases hi : 600 < i
    · rw [if_pos (show (600 : Int32) < nI i by rw [r_lt, r_nI (by omega), show (600 : Int32).toInt = 600 from rfl]; omega), if_pos (show (600 : Int32) < nI i by rw [r_lt, r_nI (by omega), show (600 : Int32).toInt = 600 from rfl]; omega)]
      exact ⟨s, Or.inl ⟨rfl, rfl⟩⟩
    · have hc : f_X3_canBeWithin ((m.1 0 4).toInt64 * gX m.1 p c i) ((m.1 0 4).toInt64 * gY m.1 p c i) (nI i) (m.1 23 3) m = f_X10_isWithin (s.2 58 5 - (s.1 58 21).toInt64) (s.2 58 6 - (s.1 58 22).toInt64) (1000 * (s.1 58 23).toInt64 * (nI i).toInt64 + (s.1 58 24).toInt64) s := by
        obtain ⟨l1, l2, l3, l4, l5, _⟩ := hL
        unfold f_X3_canBeWithin f_X10_isWithin f_X9_squareOf
        rw [b3, b4, b1 58 (by decide), l1, l2, l3, l4, l5, Int64.mul_comm (m.1 58 20).toInt64, Int64.mul_comm (m.1 58 20).toInt64]
      have hn : ¬ (600 : Int32) < nI i := by rw [r_lt, r_nI (by omega), show (600 : Int32).toInt = 600 from rfl]; omega
      rw [if_neg hn, if_neg hn, if_pos (r_in hp (by decide)), r_cl (by omega), show f_X5_gain (46 + 3 * p) (nI i) 0 m = some (gX m.1 p c i) from gainX h (by omega), Option.bind_some, if_pos (r_in hp (by decide)), show f_X5_gain (46 + 3 * p) (nI i) 1 m = some (gY m.1 p c i) from gainY h (by omega), Option.bind_some, hc]
      split
      · have hP := Pn_62 b1 h
        rw [go0 hP b2 (by omega) (k := fun z => l_X10_comes_25 f' (nI p) (nI i + 1) z), nI_1]
        refine ih (i + 1) (by omega) (by omega) f f' _ (by omega) (by omega) b1 b2 ?_ ?_
        · rw [r_wl2, if_neg (by omega), r_wl2, if_pos ⟨rfl, rfl⟩, b3, gX_s, b1 58 (by decide), b1 59 (by decide), b1 60 (by decide)]
          grind
        · rw [r_wl2, if_pos ⟨rfl, rfl⟩, b4, gY_s, b1 58 (by decide), b1 59 (by decide), b1 60 (by decide)]
          grind
      · exact ⟨s, Or.inr ⟨_, rfl, rfl⟩⟩
theorem ok_comes : q_OK_comes Inv := by
  intro x1 m hI
  by_cases g1 : 0 ≤ x1.toInt ∧ x1.toInt ≤ 3
  · obtain ⟨p, hp, rfl⟩ := r_plan g1
    obtain ⟨c, hP⟩ := Pn_of hI hp
    obtain ⟨m0, a1, a2, a3, a4⟩ := missNone10 m
    obtain ⟨s', hh⟩ := comes_l hP hI.2.2.2.2.2.1 601 0 (by omega) (by omega) 7000 7000 (q_wl (q_wl m0 58 5 0) 58 6 0) (by omega) (by omega) a3 a4 (by
      rw [r_wl2, if_neg (by omega), r_wl2, if_pos ⟨rfl, rfl⟩, show gX m.1 p c 0 = 0 from rfl]
      grind) (by
      rw [r_wl2, if_pos ⟨rfl, rfl⟩, show gY m.1 p c 0 = 0 from rfl]
      grind)
    have fin : ∀ r, f_X9_comes (nI p) m = some r → f_X10_comes (nI p) m = some (r, s') → ∃ r m2, f_X9_comes (nI p) m = some r ∧ f_X10_comes (nI p) m = some (r, m2) ∧ Inv m2 := fun r h1 h2 => ⟨r, s', h1, h2, Inv_s (s_X10_comes h2) hI⟩
    rcases hh with ⟨k1, k2⟩ | ⟨t, k1, k2⟩
    · refine fin (-6) ?_ ?_
      · unfold f_X9_comes
        rw [if_neg (fun e => r_plan9.mp e g1), show l_X9_comes_12 7000 (nI p) 0 m = _ from k1, Option.bind_some]
      · unfold f_X10_comes
        rw [if_neg (fun e => r_plan10.mp e g1), a1, Option.bind_some, show l_X10_comes_25 7000 (nI p) 0 (q_wl (q_wl m0 58 5 0) 58 6 0) = _ from k2, Option.bind_some]
    · refine fin t ?_ ?_
      · unfold f_X9_comes
        rw [if_neg (fun e => r_plan9.mp e g1), show l_X9_comes_12 7000 (nI p) 0 m = _ from k1, Option.bind_some]
      · unfold f_X10_comes
        rw [if_neg (fun e => r_plan10.mp e g1), a1, Option.bind_some, show l_X10_comes_25 7000 (nI p) 0 (q_wl (q_wl m0 58 5 0) 58 6 0) = _ from k2, Option.bind_some]
  · refine ⟨-1, m, ?_, ?_, hI⟩
    · unfold f_X9_comes
      rw [if_pos (r_plan9.mpr g1)]
    · unfold f_X10_comes
      rw [if_pos (r_plan10.mpr g1)]
