/-! PURE: what the lurker gets -/
def cn (I : Nat → Nat → Int32) (p : Nat) : Nat := (I 61 p).toNatClampNeg
theorem Pn_cn {m : q_Mm} (hI : Inv m) {p : Nat} (hp : p < 4) : Pn m.1 p (cn m.1 p) := by
  obtain ⟨c, h⟩ := Pn_of hI hp
  have : cn m.1 p = c := by
    unfold cn
    rw [h.2.2.2.1, r_cl (by have := h.2.1; omega)]
  rw [this]
  exact h
def pX (I : Nat → Nat → Int32) (t p : Nat) : Int64 := gX I p (cn I p) t * (I 58 20).toInt64
def pY (I : Nat → Nat → Int32) (t p : Nat) : Int64 := gY I p (cn I p) t * (I 58 20).toInt64
def cb (I : Nat → Nat → Int32) (t p : Nat) : Int32 := f_X10_isWithin (pX I t p - (I 58 21).toInt64) (pY I t p - (I 58 22).toInt64) (1000 * (I 58 23).toInt64 * (nI t).toInt64) m00
def gb (I : Nat → Nat → Int32) (t p : Nat) : Nat → Int32
  | 0 => 0
  | i + 1 => if f_X10_isWithin (pX I t i - pX I t p) (pY I t i - pY I t p) (I 58 24).toInt64 m00 = 0 then gb I t p i else gb I t p i ||| ((1 : Int32) <<< (nI i &&& 31))
def tkn (I : Nat → Nat → Int32) (t p : Nat) : Int32 := if cb I t p = 0 then 0 else gb I t p 4
theorem pX_62 {I I' : Nat → Nat → Int32} {t p : Nat} (h : ∀ q, ¬ q = 62 → I' q = I q) : pX I' t p = pX I t p := by
  unfold pX cn
  rw [gX_62 h, h 61 (by decide), h 58 (by decide)]
theorem pY_62 {I I' : Nat → Nat → Int32} {t p : Nat} (h : ∀ q, ¬ q = 62 → I' q = I q) : pY I' t p = pY I t p := by
  unfold pY cn
  rw [gY_62 h, h 61 (by decide), h 58 (by decide)]
theorem isW0 {a b r : Int64} {m : q_Mm} : f_X10_isWithin a b r m = 0 ↔ r * r < a * a + b * b := by
  unfold f_X10_isWithin
  split
  · exact ⟨fun _ => by assumption, fun _ => rfl⟩
  · exact ⟨fun h => absurd h (by decide), fun h => by contradiction⟩
theorem i4p : ∀ {k : Nat}, k < 4 → ¬ (4 : Int32) ≤ nI k := fun h => nI_ge (b := 4) h (by decide)
theorem waitAt_a {m : q_Mm} (hI : Inv m) {t : Nat} (ht : t ≤ 600) : ∃ m', l_X3_waitAt_3 7000 (m.1 0 4) (nI t) 0 m = some m' ∧ m'.1 = m.1 ∧ ∀ i, i < 4 → m'.2 24 i = pX m.1 t i ∧ m'.2 25 i = pY m.1 t i := by
  have hL := hI.2.2.2.2.2.1.1
  obtain ⟨m', e, b1, b2⟩ := qlp7 (fun f i (s : q_Mm) => l_X3_waitAt_3 f (m.1 0 4) (nI t) (nI i) s) 4 0 m (fun i s => s.1 = m.1 ∧ ∀ j, j < i → s.2 24 j = pX m.1 t j ∧ s.2 25 j = pY m.1 t j) (fun s => s) (by omega) (by omega) ⟨rfl, fun j hj => absurd hj (by omega)⟩
    (fun f s hs => by
      show l_X3_waitAt_3 (f + 1) _ _ _ _ = _
      unfold l_X3_waitAt_3
      rw [if_pos (by decide)])
    (fun f i s hi hs => by
      obtain ⟨s1, s2⟩ := hs
      have hP := Pn_cn hI hi
      refine ⟨q_wl (q_wl s 24 i ((m.1 0 4).toInt64 * gX m.1 i (cn m.1 i) t)) 25 i ((m.1 0 4).toInt64 * gY m.1 i (cn m.1 i) t), ?_, s1, fun j hj => ?_⟩
      · show l_X3_waitAt_3 (f + 1) _ _ _ _ = l_X3_waitAt_3 f _ _ _ _
        conv => lhs; unfold l_X3_waitAt_3
        rw [if_neg (i4p hi), if_pos (r_in hi (by decide)), r_cl (by omega), gainX (m := s) (c := cn m.1 i) (by rw [s1]; exact hP) ht, Option.bind_some, if_pos (r_in hi (by decide)), if_pos (r_in hi (by decide)), gainY (m := q_wl s 24 i _) (c := cn m.1 i) (by rw [r_wl1, s1]; exact hP) ht, Option.bind_some, if_pos (r_in hi (by decide)), nI_1]
        rw [r_wl1, s1]
        rfl
      · by_cases hji : j = i
        · subst hji
          rw [r_rowL (by decide), r_wl2, if_pos ⟨rfl, rfl⟩, r_wl2, if_pos ⟨rfl, rfl⟩, hL, Int64.mul_comm, Int64.mul_comm (m.1 58 20).toInt64]
          exact ⟨rfl, rfl⟩
        · rw [r_rowL (by decide), r_wl2, if_neg (fun z => hji z.2), r_wl2, if_neg (fun z => hji z.2), r_rowL (by decide)]
          exact s2 j (by omega))
  exact ⟨m', e, b1, b2⟩
theorem reach9 {m s : q_Mm} {t p : Nat} (hp : p < 4) (e1 : s.1 23 3 = m.1 58 24) (h : ∀ i, i < 4 → s.2 24 i = pX m.1 t i ∧ s.2 25 i = pY m.1 t i) : f_X3_plansInReach (nI p) s = some (gb m.1 t p 4) := by
  have l := qlp7g (fun f i (y : Int32) => l_X3_plansInReach_18 f (nI p) ((s.1 23 3).toInt64 * (s.1 23 3).toInt64) y (nI i) s) 4 0 (fun i => gb m.1 t p i) (fun y => y) (by omega) (by omega)
    (fun f => by
      show l_X3_plansInReach_18 (f + 1) _ _ _ _ _ = _
      unfold l_X3_plansInReach_18
      rw [if_pos (by decide)])
    (fun f i _ hi => by
      show l_X3_plansInReach_18 (f + 1) _ _ _ _ _ = l_X3_plansInReach_18 f _ _ _ _ _
      conv => lhs; unfold l_X3_plansInReach_18
      rw [if_neg (i4p hi), if_pos (r_in hi (by decide)), if_pos (r_in hp (by decide)), if_pos (r_in hi (by decide)), if_pos (r_in hp (by decide)), r_cl (show i < 2 ^ 31 by omega), r_cl (show p < 2 ^ 31 by omega), nI_1, (h i hi).1, (h i hi).2, (h p hp).1, (h p hp).2, e1]
      have pe : gb m.1 t p (i + 1) = if f_X10_isWithin (pX m.1 t i - pX m.1 t p) (pY m.1 t i - pY m.1 t p) (m.1 58 24).toInt64 m00 = 0 then gb m.1 t p i else gb m.1 t p i ||| ((1 : Int32) <<< (nI i &&& 31)) := rfl
      rw [pe]
      unfold f_X9_squareOf
      by_cases hc : (m.1 58 24).toInt64 * (m.1 58 24).toInt64 < (pX m.1 t i - pX m.1 t p) * (pX m.1 t i - pX m.1 t p) + (pY m.1 t i - pY m.1 t p) * (pY m.1 t i - pY m.1 t p)
      · rw [if_pos hc, if_pos (isW0.mpr hc)]
      · rw [if_neg hc, if_neg (fun z => hc (isW0.mp z))])
  unfold f_X3_plansInReach
  rw [show l_X3_plansInReach_18 7000 (nI p) ((s.1 23 3).toInt64 * (s.1 23 3).toInt64) 0 0 s = some (gb m.1 t p 4) from l]
  rfl
theorem waitAt9 {m : q_Mm} (hI : Inv m) {t : Nat} (ht : t ≤ 600) : ∃ m', f_X3_waitAt (m.1 0 4) (nI t) m = some m' ∧ (∀ k, ¬ k = 26 → m'.1 k = m.1 k) ∧ ∀ i, i < 4 → m'.1 26 i = tkn m.1 t i := by
  obtain ⟨m0, a1, a2, a3⟩ := waitAt_a hI ht
  obtain ⟨_, l2, l3, l4, l5, _⟩ := hI.2.2.2.2.2.1
  obtain ⟨m', e, b1, b2, b3⟩ := qlp7 (fun f i (s : q_Mm) => l_X3_waitAt_56 f (nI t) (nI i) s) 4 0 m0 (fun i s => s.2 = m0.2 ∧ (∀ k, ¬ k = 26 → s.1 k = m.1 k) ∧ ∀ j, j < i → s.1 26 j = tkn m.1 t j) (fun s => s) (by omega) (by omega) ⟨rfl, fun k _ => by rw [a2], fun j hj => absurd hj (by omega)⟩
    (fun f s hs => by
      show l_X3_waitAt_56 (f + 1) _ _ _ = _
      unfold l_X3_waitAt_56
      rw [if_pos (by decide)])
    (fun f i s hi hs => by
      obtain ⟨s1, s2, s3⟩ := hs
      refine ⟨q_wi s 26 i (tkn m.1 t i), ?_, s1, fun k hk => by rw [r_row hk, s2 k hk], fun j hj => ?_⟩
      · show l_X3_waitAt_56 (f + 1) _ _ _ = l_X3_waitAt_56 f _ _ _
        conv => lhs; unfold l_X3_waitAt_56
        have hc : f_X3_canBeWithin (s.2 24 i) (s.2 25 i) (nI t) 0 s = cb m.1 t i := by
          unfold f_X3_canBeWithin cb f_X10_isWithin f_X9_squareOf
          rw [s1, (a3 i hi).1, (a3 i hi).2, s2 23 (by decide), l2, l3, l4, show (0 : Int32).toInt64 = 0 from rfl, Int64.add_zero]
        rw [if_neg (i4p hi), if_pos (r_in hi (by decide)), if_pos (r_in hi (by decide)), r_cl (by omega), hc, nI_1]
        unfold tkn
        by_cases hb : cb m.1 t i = 0
        · rw [if_pos hb, if_pos (r_in hi (by decide)), if_pos hb]
        · rw [if_neg hb, reach9 hi (by rw [s2 23 (by decide), l5]) (fun j hj => by rw [s1]; exact a3 j hj), Option.bind_some, if_pos (r_in hi (by decide)), if_neg hb]
      · by_cases hji : j = i
        · subst hji
          rw [r_wi, if_pos ⟨rfl, rfl⟩]
        · rw [r_wi, if_neg (fun z => hji z.2)]
          exact s3 j (by omega))
  refine ⟨m', ?_, b2, b3⟩
  unfold f_X3_waitAt
  rw [a1, Option.bind_some, show l_X3_waitAt_56 7000 (nI t) 0 m0 = some m' from e]
  rfl
theorem layPlans10 {m : q_Mm} (hI : Inv m) {t : Nat} (ht : t ≤ 600) : ∃ m', f_X10_layPlans (nI t) m = some m' ∧ (∀ k, ¬ k = 62 → m'.1 k = m.1 k) ∧ ∀ i, i < 4 → m'.2 72 i = pX m.1 t i ∧ m'.2 73 i = pY m.1 t i := by
  obtain ⟨m', e, b1, b2⟩ := qlp7 (fun f i (s : q_Mm) => l_X10_layPlans_2 f (nI t) (nI i) s) 4 0 m (fun i s => (∀ k, ¬ k = 62 → s.1 k = m.1 k) ∧ ∀ j, j < i → s.2 72 j = pX m.1 t j ∧ s.2 73 j = pY m.1 t j) (fun s => s) (by omega) (by omega) ⟨fun _ _ => rfl, fun j hj => absurd hj (by omega)⟩
    (fun f s hs => by
      show l_X10_layPlans_2 (f + 1) _ _ _ = _
      unfold l_X10_layPlans_2
      rw [if_pos (by decide)])
    (fun f i s hi hs => by
      obtain ⟨s1, s2⟩ := hs
      have hP := Pn_62 s1 (Pn_cn hI hi)
      obtain ⟨z, c1, c2, c3, c4, c5⟩ := runPlan10 (sp := m.1 58 20) hP ht
      rw [gX_62 s1] at c3
      rw [gY_62 s1] at c4
      refine ⟨q_wl (q_wl z 72 i (z.2 58 5)) 73 i (z.2 58 6), ?_, fun k hk => by rw [r_wl1, r_wl1, c2 k hk, s1 k hk], fun j hj => ?_⟩
      · show l_X10_layPlans_2 (f + 1) _ _ _ = l_X10_layPlans_2 f _ _ _
        conv => lhs; unfold l_X10_layPlans_2
        rw [if_neg (i4p hi), s1 58 (by decide), c1, Option.bind_some, if_pos (r_in hi (by decide)), if_pos (r_in hi (by decide)), r_cl (by omega), nI_1]
        rw [r_rowL (show ¬ 58 = 72 by decide)]
      · by_cases hji : j = i
        · subst hji
          rw [r_rowL (by decide), r_wl2, if_pos ⟨rfl, rfl⟩, r_wl2, if_pos ⟨rfl, rfl⟩, c3, c4]
          exact ⟨rfl, rfl⟩
        · rw [r_rowL (by decide), r_wl2, if_neg (fun z => hji z.2), r_wl2, if_neg (fun z => hji z.2), r_rowL (by decide), c5 72 (by decide), c5 73 (by decide)]
          exact s2 j (by omega))
  refine ⟨m', ?_, b1, b2⟩
  unfold f_X10_layPlans
  rw [show l_X10_layPlans_2 7000 (nI t) 0 m = some m' from e]
  rfl
theorem getsAt10 {m s : q_Mm} {t p : Nat} (hp : p < 4) (h0 : s.1 58 = m.1 58) (h : ∀ i, i < 4 → s.2 72 i = pX m.1 t i ∧ s.2 73 i = pY m.1 t i) : f_X10_getsAt (nI p) (nI t) s = some (tkn m.1 t p) := by
  have hcb : f_X10_canBe (nI p) (nI t) s = some (cb m.1 t p) := by
    unfold f_X10_canBe
    rw [if_pos (r_in hp (by decide)), if_pos (r_in hp (by decide)), r_cl (by omega), (h p hp).1, (h p hp).2, h0]
    rfl
  have l : l_X10_getsAt_5 7000 (nI p) (nI t) 0 0 s = some (tkn m.1 t p) := by
    unfold tkn
    by_cases hb : cb m.1 t p = 0
    · rw [if_pos hb]
      show l_X10_getsAt_5 (6999 + 1) (nI p) (nI t) 0 0 s = _
      unfold l_X10_getsAt_5
      rw [if_neg (by decide), hcb, Option.bind_some, if_pos hb]
    · rw [if_neg hb]
      exact qlp7g (fun f i (y : Int32) => l_X10_getsAt_5 f (nI p) (nI t) y (nI i) s) 4 0 (fun i => gb m.1 t p i) (fun y => y) (by omega) (by omega)
        (fun f => by
          show l_X10_getsAt_5 (f + 1) _ _ _ _ _ = _
          unfold l_X10_getsAt_5
          rw [if_pos (by decide)])
        (fun f i _ hi => by
          show l_X10_getsAt_5 (f + 1) _ _ _ _ _ = l_X10_getsAt_5 f _ _ _ _ _
          conv => lhs; unfold l_X10_getsAt_5
          rw [if_neg (i4p hi), hcb, Option.bind_some, if_neg hb, if_pos (r_in hi (by decide)), if_pos (r_in hp (by decide)), if_pos (r_in hi (by decide)), if_pos (r_in hp (by decide)), r_cl (show i < 2 ^ 31 by omega), r_cl (show p < 2 ^ 31 by omega), nI_1, (h i hi).1, (h i hi).2, (h p hp).1, (h p hp).2, h0]
          have pe : gb m.1 t p (i + 1) = if f_X10_isWithin (pX m.1 t i - pX m.1 t p) (pY m.1 t i - pY m.1 t p) (m.1 58 24).toInt64 m00 = 0 then gb m.1 t p i else gb m.1 t p i ||| ((1 : Int32) <<< (nI i &&& 31)) := rfl
          rw [pe, Int32.or_zero]
          by_cases hc : (m.1 58 24).toInt64 * (m.1 58 24).toInt64 < (pX m.1 t i - pX m.1 t p) * (pX m.1 t i - pX m.1 t p) + (pY m.1 t i - pY m.1 t p) * (pY m.1 t i - pY m.1 t p)
          · rw [if_pos (isW0.mpr hc), if_pos (isW0.mpr hc)]
          · rw [if_neg (fun z => hc (isW0.mp z)), if_neg (fun z => hc (isW0.mp z))])
  unfold f_X10_getsAt
  rw [l, Option.bind_some]
theorem tkn_26 {I I' : Nat → Nat → Int32} {t p : Nat} (h : ∀ q, ¬ q = 26 → I' q = I q) : tkn I' t p = tkn I t p := by
  have e : ∀ i, pX I' t i = pX I t i ∧ pY I' t i = pY I t i := fun i => by
    unfold pX pY gX gY cn
    rw [h 58 (by decide), h 59 (by decide), h 60 (by decide), h 61 (by decide)]
    exact ⟨rfl, rfl⟩
  have g : ∀ i, gb I' t p i = gb I t p i := fun i => by
    induction i with
    | zero => rfl
    | succ i ih =>
      unfold gb
      rw [ih, (e i).1, (e i).2, (e p).1, (e p).2, h 58 (by decide)]
  unfold tkn cb
  rw [g, (e p).1, (e p).2, h 58 (by decide)]
theorem ok_gets : q_OK_gets Inv := by
  intro x1 x2 m hI
  by_cases g1 : 0 ≤ x1.toInt ∧ x1.toInt ≤ 3
  · by_cases g2 : 0 ≤ x2.toInt ∧ x2.toInt ≤ 600
    · obtain ⟨p, hp, rfl⟩ := r_plan g1
      obtain ⟨t, ht, rfl⟩ := r_of g2.1 (n := 601) (by omega) (by decide)
      obtain ⟨m1, a1, a2, a3⟩ := waitAt9 hI (t := t) (by omega)
      have u9 : f_X9_gets (nI p) (nI t) m = some (tkn m.1 t p, m1) := by
        unfold f_X9_gets
        rw [if_neg (fun e => r_plan9.mp e g1), if_neg (show ¬ f_X9_within (nI t) 0 600 m = 0 from fun e => r_within.mp e g2), a1, Option.bind_some, if_pos (r_in hp (by decide)), r_cl (by omega), a3 p hp]
      have hI1 : Inv m1 := Inv_s (s_X9_gets u9) hI
      obtain ⟨m2, b1, b2, b3⟩ := layPlans10 hI1 (t := t) (by omega)
      have u10 : f_X10_gets (nI p) (nI t) m1 = some (tkn m.1 t p, m2) := by
        unfold f_X10_gets
        rw [if_neg (fun e => r_plan10.mp e g1), if_neg (show ¬ f_X10_in (nI t).toInt64 0 600 m1 = 0 from fun e => r_inn.mp e g2), b1, Option.bind_some, getsAt10 hp (b2 58 (by decide)) b3, Option.bind_some, tkn_26 a2]
      exact ⟨_, _, _, u9, u10, Inv_s (s_X10_gets u10) hI1⟩
    · refine ⟨-2, m, m, ?_, ?_, hI⟩
      · unfold f_X9_gets
        rw [if_neg (fun e => r_plan9.mp e g1), if_pos (show f_X9_within x2 0 600 m = 0 from r_within.mpr g2)]
      · unfold f_X10_gets
        rw [if_neg (fun e => r_plan10.mp e g1), if_pos (show f_X10_in x2.toInt64 0 600 m = 0 from r_inn.mpr g2)]
  · refine ⟨-1, m, m, ?_, ?_, hI⟩
    · unfold f_X9_gets
      rw [if_pos (r_plan9.mpr g1)]
    · unfold f_X10_gets
      rw [if_pos (r_plan10.mpr g1)]
theorem layCaught10 {m : q_Mm} (hI : Inv m) {t : Nat} (ht : t ≤ 600) : ∃ m', f_X10_layCaught (nI t) m = some m' ∧ (∀ k, ¬ k = 62 → ¬ k = 75 → m'.1 k = m.1 k) ∧ ∀ i, i < 4 → m'.1 75 i = tkn m.1 t i := by
  obtain ⟨m0, a1, a2, a3⟩ := layPlans10 hI ht
  obtain ⟨m', e, b1, b2, b3⟩ := qlp7 (fun f i (s : q_Mm) => l_X10_layCaught_7 f (nI t) (nI i) s) 4 0 m0 (fun i s => s.2 = m0.2 ∧ (∀ k, ¬ k = 62 → ¬ k = 75 → s.1 k = m.1 k) ∧ ∀ j, j < i → s.1 75 j = tkn m.1 t j) (fun s => s) (by omega) (by omega) ⟨rfl, fun k h1 _ => a2 k h1, fun j hj => absurd hj (by omega)⟩
    (fun f s hs => by
      show l_X10_layCaught_7 (f + 1) _ _ _ = _
      unfold l_X10_layCaught_7
      rw [if_pos (by decide)])
    (fun f i s hi hs => by
      obtain ⟨s1, s2, s3⟩ := hs
      refine ⟨q_wi s 75 i (tkn m.1 t i), ?_, s1, fun k h1 hk => by rw [r_row hk, s2 k h1 hk], fun j hj => ?_⟩
      · show l_X10_layCaught_7 (f + 1) _ _ _ = l_X10_layCaught_7 f _ _ _
        conv => lhs; unfold l_X10_layCaught_7
        rw [if_neg (i4p hi), getsAt10 hi (s2 58 (by decide) (by decide)) (fun j hj => by rw [s1]; exact a3 j hj), Option.bind_some, if_pos (r_in hi (by decide)), r_cl (by omega), nI_1]
      · by_cases hji : j = i
        · subst hji
          rw [r_wi, if_pos ⟨rfl, rfl⟩]
        · rw [r_wi, if_neg (fun z => hji z.2)]
          exact s3 j (by omega))
  refine ⟨m', ?_, b2, b3⟩
  unfold f_X10_layCaught
  rw [a1, Option.bind_some, show l_X10_layCaught_7 7000 (nI t) 0 m0 = some m' from e]
  rfl
