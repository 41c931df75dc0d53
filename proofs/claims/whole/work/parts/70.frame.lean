/-! PURE: what only scratch is written by leaves Inv as it was (by program: wip/gen/gen2.py) -/
theorem s_ghost {x1 x2 x3 x4 : Int32} {m : q_Mm} : Sm sA m (f_X7_set 42 x1 x2 x3 x4 m) := Sm.wi rfl (Sm.wi rfl (Sm.wi rfl (Sm.wi rfl Sm.rf)))
set_option maxRecDepth 100000 in
set_option maxHeartbeats 4000000 in
theorem s_X7_begin {a0 : Nat} {m : q_Mm} {r : q_Mm} (h : f_X7_begin a0 m = r) : Sm sA m r := by
  unfold f_X7_begin at h
  subst h
  change Sm sA m (q_wl (q_wl m a0 5 ((m.1 a0 0).toInt64)) a0 6 (((q_wl m a0 5 ((m.1 a0 0).toInt64)).1 a0 1).toInt64))
  exact Sm.wl (Sm.wl (Sm.rf))
set_option maxRecDepth 100000 in
set_option maxHeartbeats 4000000 in
theorem s_l_X0_beginAll_2  : ∀ (k : Nat) (y1 : Int32) (m : q_Mm) {r : q_Mm}, l_X0_beginAll_2 k y1 m = some r → Sm sA m r := by
  intro k
  induction k with
  | zero => intro y1 m r h; cases h
  | succ k ih =>
    intro y1 m r h
    unfold l_X0_beginAll_2 at h
    rcases Classical.em ((m.1 3 1) ≤ y1) with hc | hc
    · have h := q_it hc h
      have h := Option.some.inj h
      subst h
      change Sm sA m m
      exact Sm.rf
    · have h := q_if hc h
      obtain ⟨hi1, h⟩ := q_is h
      exact Sm.tr (Sm.tr (Sm.rf) (s_X7_begin rfl)) (ih _ _ h)
set_option maxRecDepth 100000 in
set_option maxHeartbeats 4000000 in
theorem s_X0_beginAll  {m : q_Mm} {r : q_Mm} (h : f_X0_beginAll  m = some r) : Sm sA m r := by
  unfold f_X0_beginAll at h
  obtain ⟨r2, hr3, h⟩ := q_bd h
  have h := Option.some.inj h
  subst h
  change Sm sA m r2
  exact Sm.tr (Sm.rf) (s_l_X0_beginAll_2 _ _ _ hr3)
set_option maxRecDepth 100000 in
set_option maxHeartbeats 4000000 in
theorem s_X7_move {a0 : Nat} {a1 : Nat} {x3 : Int32} {m : q_Mm} {r : q_Mm} (h : f_X7_move a0 a1 x3 m = some r) : Sm sA m r := by
  unfold f_X7_move at h
  rcases Classical.em ((f_X1_hides x3 m) = 0) with hc | hc
  · have h := q_it hc h
    obtain ⟨r1, hr2, h⟩ := q_bd h
    obtain ⟨r3, hr4, h⟩ := q_bd h
    obtain ⟨r5, hr6, h⟩ := q_bd h
    have h := Option.some.inj h
    subst h
    change Sm sA m (q_wl (q_wl m a0 5 ((m.2 a0 5) + (((m.1 a0 2) * r3).toInt64))) a0 6 (((q_wl m a0 5 ((m.2 a0 5) + (((m.1 a0 2) * r3).toInt64))).2 a0 6) + ((((q_wl m a0 5 ((m.2 a0 5) + (((m.1 a0 2) * r3).toInt64))).1 a0 2) * r5).toInt64)))
    exact Sm.wl (Sm.wl (Sm.rf))
  · have h := q_if hc h
    obtain ⟨r7, hr8, h⟩ := q_bd h
    obtain ⟨r9, hr10, h⟩ := q_bd h
    have h := Option.some.inj h
    subst h
    change Sm sA m (q_wl (q_wl m a0 5 ((m.2 a0 5) + (((m.1 a0 2) * r7).toInt64))) a0 6 (((q_wl m a0 5 ((m.2 a0 5) + (((m.1 a0 2) * r7).toInt64))).2 a0 6) + ((((q_wl m a0 5 ((m.2 a0 5) + (((m.1 a0 2) * r7).toInt64))).1 a0 2) * r9).toInt64)))
    exact Sm.wl (Sm.wl (Sm.rf))
set_option maxRecDepth 100000 in
set_option maxHeartbeats 4000000 in
theorem s_l_X0_moveAll_3 {b1 : Nat} : ∀ (k : Nat) (y3 : Int32) (y4 : Int32) (m : q_Mm) {r : q_Mm}, l_X0_moveAll_3 k b1 y3 y4 m = some r → Sm sA m r := by
  intro k
  induction k with
  | zero => intro y3 y4 m r h; cases h
  | succ k ih =>
    intro y3 y4 m r h
    unfold l_X0_moveAll_3 at h
    rcases Classical.em ((m.1 3 1) ≤ y4) with hc | hc
    · have h := q_it hc h
      have h := Option.some.inj h
      subst h
      change Sm sA m m
      exact Sm.rf
    · have h := q_if hc h
      obtain ⟨hi1, h⟩ := q_is h
      obtain ⟨r2, hr3, h⟩ := q_bd h
      exact Sm.tr (Sm.tr (Sm.rf) (s_X7_move hr3)) (ih _ _ _ h)
set_option maxRecDepth 100000 in
set_option maxHeartbeats 4000000 in
theorem s_X0_moveAll {a1 : Nat} {x3 : Int32} {m : q_Mm} {r : q_Mm} (h : f_X0_moveAll a1 x3 m = some r) : Sm sA m r := by
  unfold f_X0_moveAll at h
  obtain ⟨r4, hr5, h⟩ := q_bd h
  have h := Option.some.inj h
  subst h
  change Sm sA m r4
  exact Sm.tr (Sm.rf) (s_l_X0_moveAll_3 _ _ _ _ hr5)
set_option maxRecDepth 100000 in
set_option maxHeartbeats 4000000 in
theorem s_l_X0_squareOfPair_19  : ∀ (k : Nat) (y1 : Int64) (y3 : Int32) (y4 : Int32) (m : q_Mm) {r : Int64 × q_Mm}, l_X0_squareOfPair_19 k y1 y3 y4 m = some r → Sm sA m r.2 := by
  intro k
  induction k with
  | zero => intro y1 y3 y4 m r h; cases h
  | succ k ih =>
    intro y1 y3 y4 m r h
    unfold l_X0_squareOfPair_19 at h
    rcases Classical.em ((m.1 3 1) ≤ y4) with hc | hc
    · have h := q_it hc h
      have h := Option.some.inj h
      subst h
      change Sm sA m m
      exact Sm.rf
    · have h := q_if hc h
      obtain ⟨hi1, h⟩ := q_is h
      obtain ⟨hi2, h⟩ := q_is h
      obtain ⟨hi3, h⟩ := q_is h
      obtain ⟨hi4, h⟩ := q_is h
      rcases Classical.em (y1 ≤ (f_X9_squareOf ((m.2 (5 + 2 * y3.toNatClampNeg) 5) - (m.2 (5 + 2 * y4.toNatClampNeg) 5)) ((m.2 (5 + 2 * y3.toNatClampNeg) 6) - (m.2 (5 + 2 * y4.toNatClampNeg) 6)) m)) with hc | hc
      · have h := q_it hc h
        exact Sm.tr (Sm.rf) (ih _ _ _ _ h)
      · have h := q_if hc h
        exact Sm.tr (Sm.wi rfl (Sm.wi rfl (Sm.rf))) (ih _ _ _ _ h)
set_option maxRecDepth 100000 in
set_option maxHeartbeats 4000000 in
theorem s_l_X0_squareOfPair_6  : ∀ (k : Nat) (y1 : Int64) (y3 : Int32) (m : q_Mm) {r : Int64 × q_Mm}, l_X0_squareOfPair_6 k y1 y3 m = some r → Sm sA m r.2 := by
  intro k
  induction k with
  | zero => intro y1 y3 m r h; cases h
  | succ k ih =>
    intro y1 y3 m r h
    unfold l_X0_squareOfPair_6 at h
    rcases Classical.em ((m.1 3 1) ≤ y3) with hc | hc
    · have h := q_it hc h
      have h := Option.some.inj h
      subst h
      change Sm sA m m
      exact Sm.rf
    · have h := q_if hc h
      obtain ⟨r5, hr6, h⟩ := q_bd h
      exact Sm.tr (Sm.tr (Sm.rf) (s_l_X0_squareOfPair_19 _ _ _ _ _ hr6)) (ih _ _ _ h)
set_option maxRecDepth 100000 in
set_option maxHeartbeats 4000000 in
theorem s_X0_squareOfPair  {m : q_Mm} {r : Int64 × q_Mm} (h : f_X0_squareOfPair  m = some r) : Sm sA m r.2 := by
  unfold f_X0_squareOfPair at h
  obtain ⟨r7, hr8, h⟩ := q_bd h
  have h := Option.some.inj h
  subst h
  change Sm sA m r7.2
  exact Sm.tr (Sm.rf) (s_l_X0_squareOfPair_6 _ _ _ _ hr8)
set_option maxRecDepth 100000 in
set_option maxHeartbeats 4000000 in
theorem s_l_X0_findNearest_14 {b1 : Nat} : ∀ (k : Nat) (y3 : Int32) (y4 : Int32) (m : q_Mm) {r : q_Mm}, l_X0_findNearest_14 k b1 y3 y4 m = some r → Sm sA m r := by
  intro k
  induction k with
  | zero => intro y3 y4 m r h; cases h
  | succ k ih =>
    intro y3 y4 m r h
    unfold l_X0_findNearest_14 at h
    rcases Classical.em (y3 < y4) with hc | hc
    · have h := q_it hc h
      have h := Option.some.inj h
      subst h
      change Sm sA m m
      exact Sm.rf
    · have h := q_if hc h
      obtain ⟨r3, hr4, h⟩ := q_bd h
      rcases Classical.em ((r3.2.2 3 5) ≤ r3.1) with hc | hc
      · have h := q_it hc h
        obtain ⟨r5, hr6, h⟩ := q_bd h
        exact Sm.tr (Sm.tr (Sm.tr (Sm.rf) (s_X0_squareOfPair hr4)) (s_X0_moveAll hr6)) (ih _ _ _ h)
      · have h := q_if hc h
        obtain ⟨r7, hr8, h⟩ := q_bd h
        exact Sm.tr (Sm.tr (Sm.wi rfl (Sm.wi rfl (Sm.wi rfl (Sm.wl (Sm.tr (Sm.rf) (s_X0_squareOfPair hr4)))))) (s_X0_moveAll hr8)) (ih _ _ _ h)
set_option maxRecDepth 100000 in
set_option maxHeartbeats 4000000 in
theorem s_X0_findNearest {a1 : Nat} {x3 : Int32} {m : q_Mm} {r : q_Mm} (h : f_X0_findNearest a1 x3 m = some r) : Sm sA m r := by
  unfold f_X0_findNearest at h
  obtain ⟨r1, hr2, h⟩ := q_bd h
  obtain ⟨r9, hr10, h⟩ := q_bd h
  have h := Option.some.inj h
  subst h
  change Sm sA m r9
  exact Sm.tr (Sm.tr (Sm.wl (Sm.rf)) (s_X0_beginAll hr2)) (s_l_X0_findNearest_14 _ _ _ _ hr10)
set_option maxRecDepth 100000 in
set_option maxHeartbeats 4000000 in
theorem s_l_X0_minutesNearer_19 {b1 : Nat} : ∀ (k : Nat) (y3 : Int32) (y5 : Int64) (y7 : Int32) (y8 : Int32) (m : q_Mm) {r : Int32 × q_Mm}, l_X0_minutesNearer_19 k b1 y3 y5 y7 y8 m = some r → Sm sA m r.2 := by
  intro k
  induction k with
  | zero => intro y3 y5 y7 y8 m r h; cases h
  | succ k ih =>
    intro y3 y5 y7 y8 m r h
    unfold l_X0_minutesNearer_19 at h
    rcases Classical.em (y3 < y8) with hc | hc
    · have h := q_it hc h
      have h := Option.some.inj h
      subst h
      change Sm sA m m
      exact Sm.rf
    · have h := q_if hc h
      obtain ⟨r3, hr4, h⟩ := q_bd h
      rcases Classical.em (y5 ≤ r3.1) with hc | hc
      · have h := q_it hc h
        obtain ⟨r5, hr6, h⟩ := q_bd h
        exact Sm.tr (Sm.tr (Sm.tr (Sm.rf) (s_X0_squareOfPair hr4)) (s_X0_moveAll hr6)) (ih _ _ _ _ _ h)
      · have h := q_if hc h
        obtain ⟨r7, hr8, h⟩ := q_bd h
        exact Sm.tr (Sm.tr (Sm.tr (Sm.rf) (s_X0_squareOfPair hr4)) (s_X0_moveAll hr8)) (ih _ _ _ _ _ h)
set_option maxRecDepth 100000 in
set_option maxHeartbeats 4000000 in
theorem s_X0_minutesNearer {a1 : Nat} {x3 : Int32} {x4 : Int32} {m : q_Mm} {r : Int32 × q_Mm} (h : f_X0_minutesNearer a1 x3 x4 m = some r) : Sm sA m r.2 := by
  unfold f_X0_minutesNearer at h
  obtain ⟨r1, hr2, h⟩ := q_bd h
  obtain ⟨r9, hr10, h⟩ := q_bd h
  have h := Option.some.inj h
  subst h
  change Sm sA m r9.2
  exact Sm.tr (Sm.tr (Sm.rf) (s_X0_beginAll hr2)) (s_l_X0_minutesNearer_19 _ _ _ _ _ _ hr10)
set_option maxRecDepth 100000 in
set_option maxHeartbeats 4000000 in
theorem s_X2_consider {x1 : Int64} {x3 : Int32} {x4 : Int32} {m : q_Mm} {r : q_Mm} (h : f_X2_consider x1 x3 x4 m = r) : Sm sA m r := by
  unfold f_X2_consider at h
  rcases Classical.em ((m.2 38 7) ≤ x1) with hc | hc
  · have h := q_it hc h
    subst h
    change Sm sA m m
    exact Sm.rf
  · have h := q_if hc h
    subst h
    change Sm sA m (q_wi (q_wi (q_wi (q_wl m 38 7 x1) 38 8 ((q_wl m 38 7 x1).1 42 3)) 38 9 x3) 38 10 x4)
    exact Sm.wi rfl (Sm.wi rfl (Sm.wi rfl (Sm.wl (Sm.rf))))
set_option maxRecDepth 100000 in
set_option maxHeartbeats 4000000 in
theorem s_l_X2_considerMisses_17 {b1 : Nat} : ∀ (k : Nat) (y3 : Int32) (y4 : Int32) (y5 : Int32) (m : q_Mm) {r : q_Mm}, l_X2_considerMisses_17 k b1 y3 y4 y5 m = some r → Sm sA m r := by
  intro k
  induction k with
  | zero => intro y3 y4 y5 m r h; cases h
  | succ k ih =>
    intro y3 y4 y5 m r h
    unfold l_X2_considerMisses_17 at h
    rcases Classical.em ((m.1 b1 2) ≤ y5) with hc | hc
    · have h := q_it hc h
      have h := Option.some.inj h
      subst h
      change Sm sA m m
      exact Sm.rf
    · have h := q_if hc h
      obtain ⟨r1, hr2, h⟩ := q_bd h
      obtain ⟨r3, hr4, h⟩ := q_bd h
      obtain ⟨hi5, h⟩ := q_is h
      obtain ⟨r6, hr7, h⟩ := q_bd h
      obtain ⟨r8, hr9, h⟩ := q_bd h
      obtain ⟨hi10, h⟩ := q_is h
      obtain ⟨r11, hr12, h⟩ := q_bd h
      obtain ⟨hi13, h⟩ := q_is h
      obtain ⟨r14, hr15, h⟩ := q_bd h
      obtain ⟨r16, hr17, h⟩ := q_bd h
      exact Sm.tr (Sm.tr (Sm.rf) (s_X2_consider rfl)) (ih _ _ _ _ h)
set_option maxRecDepth 100000 in
set_option maxHeartbeats 4000000 in
theorem s_X2_considerMisses {a1 : Nat} {x3 : Int32} {m : q_Mm} {r : q_Mm} (h : f_X2_considerMisses a1 x3 m = some r) : Sm sA m r := by
  unfold f_X2_considerMisses at h
  obtain ⟨r18, hr19, h⟩ := q_bd h
  have h := Option.some.inj h
  subst h
  change Sm sA m r18
  exact Sm.tr (Sm.rf) (s_l_X2_considerMisses_17 _ _ _ _ _ hr19)
set_option maxRecDepth 100000 in
set_option maxHeartbeats 4000000 in
theorem s_l_X2_goTheWay_9 {b1 : Nat} : ∀ (k : Nat) (y3 : Int32) (m : q_Mm) {r : q_Mm}, l_X2_goTheWay_9 k b1 y3 m = some r → Sm sA m r := by
  intro k
  induction k with
  | zero => intro y3 m r h; cases h
  | succ k ih =>
    intro y3 m r h
    unfold l_X2_goTheWay_9 at h
    rcases Classical.em (600 < y3) with hc | hc
    · have h := q_it hc h
      have h := Option.some.inj h
      subst h
      change Sm sA m m
      exact Sm.rf
    · have h := q_if hc h
      obtain ⟨hi1, h⟩ := q_is h
      obtain ⟨hi2, h⟩ := q_is h
      obtain ⟨r3, hr4, h⟩ := q_bd h
      exact Sm.tr (Sm.tr (Sm.wl (Sm.wl (Sm.rf))) (s_X7_move hr4)) (ih _ _ h)
set_option maxRecDepth 100000 in
set_option maxHeartbeats 4000000 in
theorem s_X2_goTheWay {a1 : Nat} {m : q_Mm} {r : q_Mm} (h : f_X2_goTheWay a1 m = some r) : Sm sA m r := by
  unfold f_X2_goTheWay at h
  obtain ⟨r5, hr6, h⟩ := q_bd h
  have h := Option.some.inj h
  subst h
  change Sm sA m r5
  exact Sm.tr (Sm.tr (Sm.rf) (s_X7_begin rfl)) (s_l_X2_goTheWay_9 _ _ _ hr6)
set_option maxRecDepth 100000 in
set_option maxHeartbeats 4000000 in
theorem s_l_X2_explain_55 {b1 : Nat} : ∀ (k : Nat) (y3 : Int32) (y4 : Int32) (m : q_Mm) {r : q_Mm}, l_X2_explain_55 k b1 y3 y4 m = some r → Sm sA m r := by
  intro k
  induction k with
  | zero => intro y3 y4 m r h; cases h
  | succ k ih =>
    intro y3 y4 m r h
    unfold l_X2_explain_55 at h
    rcases Classical.em (10 ≤ y4) with hc | hc
    · have h := q_it hc h
      have h := Option.some.inj h
      subst h
      change Sm sA m m
      exact Sm.rf
    · have h := q_if hc h
      obtain ⟨r6, hr7, h⟩ := q_bd h
      exact Sm.tr (Sm.tr (Sm.rf) (s_X2_considerMisses hr7)) (ih _ _ _ h)
set_option maxRecDepth 100000 in
set_option maxHeartbeats 4000000 in
theorem s_l_X2_explain_9 {b1 : Nat} : ∀ (k : Nat) (y3 : Int32) (m : q_Mm) {r : q_Mm}, l_X2_explain_9 k b1 y3 m = some r → Sm sA m r := by
  intro k
  induction k with
  | zero => intro y3 m r h; cases h
  | succ k ih =>
    intro y3 m r h
    unfold l_X2_explain_9 at h
    rcases Classical.em (11 ≤ y3) with hc | hc
    · have h := q_it hc h
      have h := Option.some.inj h
      subst h
      change Sm sA m m
      exact Sm.rf
    · have h := q_if hc h
      obtain ⟨hi1, h⟩ := q_is h
      obtain ⟨r2, hr3, h⟩ := q_bd h
      obtain ⟨r4, hr5, h⟩ := q_bd h
      obtain ⟨r8, hr9, h⟩ := q_bd h
      exact Sm.tr (Sm.tr (Sm.tr (Sm.tr (Sm.wi rfl (Sm.rf)) (s_X2_goTheWay hr3)) (s_X2_consider rfl)) (s_l_X2_explain_55 _ _ _ _ hr9)) (ih _ _ h)
set_option maxRecDepth 100000 in
set_option maxHeartbeats 4000000 in
theorem s_X2_explain {a1 : Nat} {m : q_Mm} {r : q_Mm} (h : f_X2_explain a1 m = some r) : Sm sA m r := by
  unfold f_X2_explain at h
  obtain ⟨r10, hr11, h⟩ := q_bd h
  have h := Option.some.inj h
  subst h
  change Sm sA m r10
  exact Sm.tr (Sm.wl (Sm.rf)) (s_l_X2_explain_9 _ _ _ hr11)
set_option maxRecDepth 100000 in
set_option maxHeartbeats 4000000 in
theorem s_l_X3_waitAt_3  : ∀ (k : Nat) (y2 : Int32) (y3 : Int32) (y4 : Int32) (m : q_Mm) {r : q_Mm}, l_X3_waitAt_3 k y2 y3 y4 m = some r → Sm sA m r := by
  intro k
  induction k with
  | zero => intro y2 y3 y4 m r h; cases h
  | succ k ih =>
    intro y2 y3 y4 m r h
    unfold l_X3_waitAt_3 at h
    rcases Classical.em (4 ≤ y4) with hc | hc
    · have h := q_it hc h
      have h := Option.some.inj h
      subst h
      change Sm sA m m
      exact Sm.rf
    · have h := q_if hc h
      obtain ⟨hi1, h⟩ := q_is h
      obtain ⟨r2, hr3, h⟩ := q_bd h
      obtain ⟨hi4, h⟩ := q_is h
      obtain ⟨hi5, h⟩ := q_is h
      obtain ⟨r6, hr7, h⟩ := q_bd h
      obtain ⟨hi8, h⟩ := q_is h
      exact Sm.tr (Sm.wl (Sm.wl (Sm.rf))) (ih _ _ _ _ h)
set_option maxRecDepth 100000 in
set_option maxHeartbeats 4000000 in
theorem s_l_X3_waitAt_56  : ∀ (k : Nat) (y3 : Int32) (y4 : Int32) (m : q_Mm) {r : q_Mm}, l_X3_waitAt_56 k y3 y4 m = some r → Sm sA m r := by
  intro k
  induction k with
  | zero => intro y3 y4 m r h; cases h
  | succ k ih =>
    intro y3 y4 m r h
    unfold l_X3_waitAt_56 at h
    rcases Classical.em (4 ≤ y4) with hc | hc
    · have h := q_it hc h
      have h := Option.some.inj h
      subst h
      change Sm sA m m
      exact Sm.rf
    · have h := q_if hc h
      obtain ⟨hi11, h⟩ := q_is h
      obtain ⟨hi12, h⟩ := q_is h
      rcases Classical.em ((f_X3_canBeWithin (m.2 24 y4.toNatClampNeg) (m.2 25 y4.toNatClampNeg) y3 0 m) = 0) with hc | hc
      · have h := q_it hc h
        obtain ⟨hi13, h⟩ := q_is h
        exact Sm.tr (Sm.wi rfl (Sm.rf)) (ih _ _ _ h)
      · have h := q_if hc h
        obtain ⟨r14, hr15, h⟩ := q_bd h
        obtain ⟨hi16, h⟩ := q_is h
        exact Sm.tr (Sm.wi rfl (Sm.rf)) (ih _ _ _ h)
set_option maxRecDepth 100000 in
set_option maxHeartbeats 4000000 in
theorem s_X3_waitAt {x2 : Int32} {x3 : Int32} {m : q_Mm} {r : q_Mm} (h : f_X3_waitAt x2 x3 m = some r) : Sm sA m r := by
  unfold f_X3_waitAt at h
  obtain ⟨r9, hr10, h⟩ := q_bd h
  obtain ⟨r17, hr18, h⟩ := q_bd h
  have h := Option.some.inj h
  subst h
  change Sm sA m r17
  exact Sm.tr (Sm.tr (Sm.rf) (s_l_X3_waitAt_3 _ _ _ _ _ hr10)) (s_l_X3_waitAt_56 _ _ _ _ hr18)
set_option maxRecDepth 100000 in
set_option maxHeartbeats 4000000 in
theorem s_l_X3_choose_14  : ∀ (k : Nat) (y1 : Int32) (y2 : Int32) (y3 : Int32) (y4 : Int32) (y5 : Int32) (m : q_Mm) {r : q_Mm}, l_X3_choose_14 k y1 y2 y3 y4 y5 m = some r → Sm sA m r := by
  intro k
  induction k with
  | zero => intro y1 y2 y3 y4 y5 m r h; cases h
  | succ k ih =>
    intro y1 y2 y3 y4 y5 m r h
    unfold l_X3_choose_14 at h
    rcases Classical.em (4 ≤ y5) with hc | hc
    · have h := q_it hc h
      have h := Option.some.inj h
      subst h
      change Sm sA m m
      exact Sm.rf
    · have h := q_if hc h
      obtain ⟨hi1, h⟩ := q_is h
      rcases Classical.em ((m.1 26 y5.toNatClampNeg) = 0) with hc | hc
      · have h := q_it hc h
        exact Sm.tr (Sm.rf) (ih _ _ _ _ _ _ h)
      · have h := q_if hc h
        rcases Classical.em ((m.1 23 8) = (-6)) with hc | hc
        · have h := q_it hc h
          exact Sm.tr (Sm.wi rfl (Sm.wi rfl (Sm.rf))) (ih _ _ _ _ _ _ h)
        · have h := q_if hc h
          rcases Classical.em (((((y1 * ((m.1 26 y5.toNatClampNeg) &&& 1)) + (y2 * (((m.1 26 y5.toNatClampNeg) >>> ((1 : Int32) &&& 31)) &&& 1))) + (y3 * (((m.1 26 y5.toNatClampNeg) >>> ((2 : Int32) &&& 31)) &&& 1))) + (y4 * (((m.1 26 y5.toNatClampNeg) >>> ((3 : Int32) &&& 31)) &&& 1))) ≤ (m.1 23 7)) with hc | hc
          · have h := q_it hc h
            exact Sm.tr (Sm.rf) (ih _ _ _ _ _ _ h)
          · have h := q_if hc h
            exact Sm.tr (Sm.wi rfl (Sm.wi rfl (Sm.rf))) (ih _ _ _ _ _ _ h)
set_option maxRecDepth 100000 in
set_option maxHeartbeats 4000000 in
theorem s_X3_choose {x1 : Int32} {x2 : Int32} {x3 : Int32} {x4 : Int32} {m : q_Mm} {r : q_Mm} (h : f_X3_choose x1 x2 x3 x4 m = some r) : Sm sA m r := by
  unfold f_X3_choose at h
  obtain ⟨r2, hr3, h⟩ := q_bd h
  have h := Option.some.inj h
  subst h
  change Sm sA m r2
  exact Sm.tr (Sm.wi rfl (Sm.wi rfl (Sm.rf))) (s_l_X3_choose_14 _ _ _ _ _ _ _ hr3)
set_option maxRecDepth 100000 in
set_option maxHeartbeats 4000000 in
theorem s_X3_considerMix {x1 : Int32} {x2 : Int32} {x3 : Int32} {x4 : Int32} {m : q_Mm} {r : q_Mm} (h : f_X3_considerMix x1 x2 x3 x4 m = some r) : Sm sA m r := by
  unfold f_X3_considerMix at h
  obtain ⟨r1, hr2, h⟩ := q_bd h
  rcases Classical.em ((r1.1 23 10) ≤ (r1.1 23 7)) with hc | hc
  · have h := q_it hc h
    have h := Option.some.inj h
    subst h
    change Sm sA m r1
    exact Sm.tr (Sm.rf) (s_X3_choose hr2)
  · have h := q_if hc h
    have h := Option.some.inj h
    subst h
    change Sm sA m (q_wi (q_wi (q_wi (q_wi (q_wi r1 23 10 (r1.1 23 7)) 27 ((0 : Int32).toNatClampNeg) x1) 27 ((1 : Int32).toNatClampNeg) x2) 27 ((2 : Int32).toNatClampNeg) x3) 27 ((3 : Int32).toNatClampNeg) x4)
    exact Sm.wi rfl (Sm.wi rfl (Sm.wi rfl (Sm.wi rfl (Sm.wi rfl (Sm.tr (Sm.rf) (s_X3_choose hr2))))))
set_option maxRecDepth 100000 in
set_option maxHeartbeats 4000000 in
theorem s_l_X3_findMix_26  : ∀ (k : Nat) (y1 : Int32) (y2 : Int32) (y3 : Int32) (y4 : Int32) (m : q_Mm) {r : q_Mm}, l_X3_findMix_26 k y1 y2 y3 y4 m = some r → Sm sA m r := by
  intro k
  induction k with
  | zero => intro y1 y2 y3 y4 m r h; cases h
  | succ k ih =>
    intro y1 y2 y3 y4 m r h
    unfold l_X3_findMix_26 at h
    rcases Classical.em (((y1 - y2) - y3) < y4) with hc | hc
    · have h := q_it hc h
      have h := Option.some.inj h
      subst h
      change Sm sA m m
      exact Sm.rf
    · have h := q_if hc h
      obtain ⟨r1, hr2, h⟩ := q_bd h
      exact Sm.tr (Sm.tr (Sm.rf) (s_X3_considerMix hr2)) (ih _ _ _ _ _ h)
set_option maxRecDepth 100000 in
set_option maxHeartbeats 4000000 in
theorem s_l_X3_findMix_16  : ∀ (k : Nat) (y1 : Int32) (y2 : Int32) (y3 : Int32) (m : q_Mm) {r : q_Mm}, l_X3_findMix_16 k y1 y2 y3 m = some r → Sm sA m r := by
  intro k
  induction k with
  | zero => intro y1 y2 y3 m r h; cases h
  | succ k ih =>
    intro y1 y2 y3 m r h
    unfold l_X3_findMix_16 at h
    rcases Classical.em ((y1 - y2) < y3) with hc | hc
    · have h := q_it hc h
      have h := Option.some.inj h
      subst h
      change Sm sA m m
      exact Sm.rf
    · have h := q_if hc h
      obtain ⟨r3, hr4, h⟩ := q_bd h
      exact Sm.tr (Sm.tr (Sm.rf) (s_l_X3_findMix_26 _ _ _ _ _ _ hr4)) (ih _ _ _ _ h)
set_option maxRecDepth 100000 in
set_option maxHeartbeats 4000000 in
theorem s_l_X3_findMix_9  : ∀ (k : Nat) (y1 : Int32) (y2 : Int32) (m : q_Mm) {r : q_Mm}, l_X3_findMix_9 k y1 y2 m = some r → Sm sA m r := by
  intro k
  induction k with
  | zero => intro y1 y2 m r h; cases h
  | succ k ih =>
    intro y1 y2 m r h
    unfold l_X3_findMix_9 at h
    rcases Classical.em (y1 < y2) with hc | hc
    · have h := q_it hc h
      have h := Option.some.inj h
      subst h
      change Sm sA m m
      exact Sm.rf
    · have h := q_if hc h
      obtain ⟨r5, hr6, h⟩ := q_bd h
      exact Sm.tr (Sm.tr (Sm.rf) (s_l_X3_findMix_16 _ _ _ _ _ hr6)) (ih _ _ _ h)
set_option maxRecDepth 100000 in
set_option maxHeartbeats 4000000 in
theorem s_X3_findMix {x1 : Int32} {m : q_Mm} {r : q_Mm} (h : f_X3_findMix x1 m = some r) : Sm sA m r := by
  unfold f_X3_findMix at h
  obtain ⟨r7, hr8, h⟩ := q_bd h
  have h := Option.some.inj h
  subst h
  change Sm sA m r7
  exact Sm.tr (Sm.wi rfl (Sm.rf)) (s_l_X3_findMix_9 _ _ _ _ hr8)
set_option maxRecDepth 100000 in
set_option maxHeartbeats 4000000 in
theorem s_X4_keepMove {x1 : Int32} {x2 : Int32} {x3 : Int32} {x4 : Int32} {m : q_Mm} {r : q_Mm} (h : f_X4_keepMove x1 x2 x3 x4 m = some r) : Sm sA m r := by
  unfold f_X4_keepMove at h
  obtain ⟨hi1, h⟩ := q_is h
  obtain ⟨hi2, h⟩ := q_is h
  have h := Option.some.inj h
  subst h
  change Sm sA m (q_wl m 91 ((f_X4_longOf x1 x2 x3 m).toNatClampNeg) (((m.2 91 (f_X4_longOf x1 x2 x3 m).toNatClampNeg) &&& (((15 : Int64) <<< ((f_X4_shiftOf x3 m).toInt64 &&& 63)) ^^^ (-1))) ||| (x4.toInt64 <<< ((f_X4_shiftOf x3 m).toInt64 &&& 63))))
  exact Sm.wl (Sm.rf)
set_option maxRecDepth 100000 in
set_option maxHeartbeats 4000000 in
theorem s_X4_weigh {x1 : Int32} {x2 : Int32} {x3 : Int32} {x4 : Int32} {m : q_Mm} {r : Int32 × q_Mm} (h : f_X4_weigh x1 x2 x3 x4 m = some r) : Sm sA m r.2 := by
  unfold f_X4_weigh at h
  obtain ⟨hi1, h⟩ := q_is h
  rcases Classical.em ((m.1 33 ((12 * x4) + x3).toNatClampNeg) = (-1)) with hc | hc
  · have h := q_it hc h
    have h := Option.some.inj h
    subst h
    change Sm sA m m
    exact Sm.rf
  · have h := q_if hc h
    obtain ⟨r2, hr3, h⟩ := q_bd h
    rcases (Classical.em (r2 = 0)).symm with hc | hc
    · have h := q_if hc h
      rcases Classical.em ((f_X4_endsAt ((12 * x4) + x3) (f_X4_dayOf x1 x2 m) m) = 0) with hc | hc
      · have h := q_it hc h
        obtain ⟨r4, hr5, h⟩ := q_bd h
        obtain ⟨r10, hr11, h⟩ := q_bd h
        obtain ⟨r12, hr13, h⟩ := q_bd h
        have h := Option.some.inj h
        subst h
        change Sm sA m r12
        exact Sm.tr (Sm.rf) (s_X4_keepMove hr13)
      · have h := q_if hc h
        have h := Option.some.inj h
        subst h
        change Sm sA m m
        exact Sm.rf
    · have h := q_it hc h
      have h := Option.some.inj h
      subst h
      change Sm sA m m
      exact Sm.rf
set_option maxRecDepth 100000 in
set_option maxHeartbeats 4000000 in
theorem s_l_X4_weighRow_132  : ∀ (k : Nat) (y1 : Int32) (y2 : Int32) (y4 : Int32) (y5 : Int32) (y7 : Int32) (y8 : Int32) (y9 : Int32) (m : q_Mm) {r : q_Mm}, l_X4_weighRow_132 k y1 y2 y4 y5 y7 y8 y9 m = some r → Sm sA m r := by
  intro k
  induction k with
  | zero => intro y1 y2 y4 y5 y7 y8 y9 m r h; cases h
  | succ k ih =>
    intro y1 y2 y4 y5 y7 y8 y9 m r h
    unfold l_X4_weighRow_132 at h
    rcases Classical.em (y5 < y9) with hc | hc
    · have h := q_it hc h
      have h := Option.some.inj h
      subst h
      change Sm sA m m
      exact Sm.rf
    · have h := q_if hc h
      obtain ⟨r1, hr2, h⟩ := q_bd h
      obtain ⟨hi3, h⟩ := q_is h
      exact Sm.tr (Sm.wi rfl (Sm.tr (Sm.rf) (s_X4_weigh hr2))) (ih _ _ _ _ _ _ _ _ h)
set_option maxRecDepth 100000 in
set_option maxHeartbeats 4000000 in
theorem s_l_X4_weighRow_121  : ∀ (k : Nat) (y1 : Int32) (y2 : Int32) (y4 : Int32) (y5 : Int32) (y7 : Int32) (y8 : Int32) (m : q_Mm) {r : q_Mm}, l_X4_weighRow_121 k y1 y2 y4 y5 y7 y8 m = some r → Sm sA m r := by
  intro k
  induction k with
  | zero => intro y1 y2 y4 y5 y7 y8 m r h; cases h
  | succ k ih =>
    intro y1 y2 y4 y5 y7 y8 m r h
    unfold l_X4_weighRow_121 at h
    rcases Classical.em (y7 < y8) with hc | hc
    · have h := q_it hc h
      have h := Option.some.inj h
      subst h
      change Sm sA m m
      exact Sm.rf
    · have h := q_if hc h
      obtain ⟨r4, hr5, h⟩ := q_bd h
      exact Sm.tr (Sm.tr (Sm.rf) (s_l_X4_weighRow_132 _ _ _ _ _ _ _ _ _ hr5)) (ih _ _ _ _ _ _ _ h)
set_option maxRecDepth 100000 in
set_option maxHeartbeats 4000000 in
theorem s_X4_weighRow {x1 : Int32} {x2 : Int32} {m : q_Mm} {r : q_Mm} (h : f_X4_weighRow x1 x2 m = some r) : Sm sA m r := by
  unfold f_X4_weighRow at h
  obtain ⟨r6, hr7, h⟩ := q_bd h
  have h := Option.some.inj h
  subst h
  change Sm sA m r6
  exact Sm.tr (Sm.rf) (s_l_X4_weighRow_121 _ _ _ _ _ _ _ _ hr7)
set_option maxRecDepth 100000 in
set_option maxHeartbeats 4000000 in
theorem s_l_X4_search_35  : ∀ (k : Nat) (y3 : Int32) (m : q_Mm) {r : q_Mm}, l_X4_search_35 k y3 m = some r → Sm sA m r := by
  intro k
  induction k with
  | zero => intro y3 m r h; cases h
  | succ k ih =>
    intro y3 m r h
    unfold l_X4_search_35 at h
    rcases Classical.em ((((m.1 89 6) + 1) * 144) ≤ y3) with hc | hc
    · have h := q_it hc h
      have h := Option.some.inj h
      subst h
      change Sm sA m m
      exact Sm.rf
    · have h := q_if hc h
      obtain ⟨hi1, h⟩ := q_is h
      exact Sm.tr (Sm.wi rfl (Sm.rf)) (ih _ _ h)
set_option maxRecDepth 100000 in
set_option maxHeartbeats 4000000 in
theorem s_l_X4_search_76  : ∀ (k : Nat) (y3 : Int32) (y4 : Int32) (m : q_Mm) {r : q_Mm}, l_X4_search_76 k y3 y4 m = some r → Sm sA m r := by
  intro k
  induction k with
  | zero => intro y3 y4 m r h; cases h
  | succ k ih =>
    intro y3 y4 m r h
    unfold l_X4_search_76 at h
    rcases Classical.em ((m.1 89 6) < y4) with hc | hc
    · have h := q_it hc h
      have h := Option.some.inj h
      subst h
      change Sm sA m m
      exact Sm.rf
    · have h := q_if hc h
      obtain ⟨r4, hr5, h⟩ := q_bd h
      exact Sm.tr (Sm.tr (Sm.rf) (s_X4_weighRow hr5)) (ih _ _ _ h)
set_option maxRecDepth 100000 in
set_option maxHeartbeats 4000000 in
theorem s_l_X4_search_65  : ∀ (k : Nat) (y3 : Int32) (m : q_Mm) {r : q_Mm}, l_X4_search_65 k y3 m = some r → Sm sA m r := by
  intro k
  induction k with
  | zero => intro y3 m r h; cases h
  | succ k ih =>
    intro y3 m r h
    unfold l_X4_search_65 at h
    rcases Classical.em ((m.1 89 7) < y3) with hc | hc
    · have h := q_it hc h
      have h := Option.some.inj h
      subst h
      change Sm sA m m
      exact Sm.rf
    · have h := q_if hc h
      obtain ⟨r6, hr7, h⟩ := q_bd h
      exact Sm.tr (Sm.tr (Sm.rf) (s_l_X4_search_76 _ _ _ _ hr7)) (ih _ _ h)
set_option maxRecDepth 100000 in
set_option maxHeartbeats 4000000 in
theorem s_X4_search {x1 : Int32} {x2 : Int32} {m : q_Mm} {r : q_Mm} (h : f_X4_search x1 x2 m = some r) : Sm sA m r := by
  unfold f_X4_search at h
  obtain ⟨r2, hr3, h⟩ := q_bd h
  obtain ⟨r8, hr9, h⟩ := q_bd h
  obtain ⟨hi10, h⟩ := q_is h
  have h := Option.some.inj h
  subst h
  change Sm sA m (q_wi r8 89 10 (r8.1 90 (((r8.1 89 6) * 144) + (r8.1 89 4)).toNatClampNeg))
  exact Sm.wi rfl (Sm.tr (Sm.tr (Sm.wi rfl (Sm.wi rfl (Sm.rf))) (s_l_X4_search_35 _ _ _ hr3)) (s_l_X4_search_65 _ _ _ hr9))
set_option maxRecDepth 100000 in
set_option maxHeartbeats 4000000 in
theorem s_X4_findAlone {x1 : Int32} {x2 : Int32} {x3 : Int32} {x4 : Int32} {m : q_Mm} {r : Int32 × q_Mm} (h : f_X4_findAlone x1 x2 x3 x4 m = some r) : Sm sA m r.2 := by
  unfold f_X4_findAlone at h
  obtain ⟨r1, hr2, h⟩ := q_bd h
  rcases Classical.em (536870912 ≤ (r1.1 89 10)) with hc | hc
  · have h := q_it hc h
    have h := Option.some.inj h
    subst h
    change Sm sA m r1
    exact Sm.tr (Sm.wi rfl (Sm.wi rfl (Sm.wi rfl (Sm.wi rfl (Sm.rf))))) (s_X4_search hr2)
  · have h := q_if hc h
    have h := Option.some.inj h
    subst h
    change Sm sA m r1
    exact Sm.tr (Sm.wi rfl (Sm.wi rfl (Sm.wi rfl (Sm.wi rfl (Sm.rf))))) (s_X4_search hr2)
set_option maxRecDepth 100000 in
set_option maxHeartbeats 4000000 in
theorem s_l_X4_findApart_26  : ∀ (k : Nat) (y3 : Int32) (y4 : Int32) (y6 : Int32) (m : q_Mm) {r : q_Mm}, l_X4_findApart_26 k y3 y4 y6 m = some r → Sm sA m r := by
  intro k
  induction k with
  | zero => intro y3 y4 y6 m r h; cases h
  | succ k ih =>
    intro y3 y4 y6 m r h
    unfold l_X4_findApart_26 at h
    rcases Classical.em (y6 < 0) with hc | hc
    · have h := q_it hc h
      have h := Option.some.inj h
      subst h
      change Sm sA m m
      exact Sm.rf
    · have h := q_if hc h
      obtain ⟨r1, hr2, h⟩ := q_bd h
      rcases Classical.em (r1 = 0) with hc | hc
      · have h := q_it hc h
        have h := Option.some.inj h
        subst h
        change Sm sA m m
        exact Sm.rf
      · have h := q_if hc h
        exact Sm.tr (Sm.wi rfl (Sm.rf)) (ih _ _ _ _ h)
set_option maxRecDepth 100000 in
set_option maxHeartbeats 4000000 in
theorem s_X4_findApart {x1 : Int32} {x2 : Int32} {x3 : Int32} {x4 : Int32} {x5 : Int32} {m : q_Mm} {r : Int32 × q_Mm} (h : f_X4_findApart x1 x2 x3 x4 x5 m = some r) : Sm sA m r.2 := by
  unfold f_X4_findApart at h
  obtain ⟨r3, hr4, h⟩ := q_bd h
  obtain ⟨r5, hr6, h⟩ := q_bd h
  rcases Classical.em (536870912 ≤ (r5.1 89 10)) with hc | hc
  · have h := q_it hc h
    rcases Classical.em (536870912 ≤ (r5.1 89 10)) with hc | hc
    · have h := q_it hc h
      have h := Option.some.inj h
      subst h
      change Sm sA m r5
      exact Sm.tr (Sm.tr (Sm.wi rfl (Sm.wi rfl (Sm.wi rfl (Sm.wi rfl (Sm.rf))))) (s_l_X4_findApart_26 _ _ _ _ _ hr4)) (s_X4_search hr6)
    · have h := q_if hc h
      have h := Option.some.inj h
      subst h
      change Sm sA m r5
      exact Sm.tr (Sm.tr (Sm.wi rfl (Sm.wi rfl (Sm.wi rfl (Sm.wi rfl (Sm.rf))))) (s_l_X4_findApart_26 _ _ _ _ _ hr4)) (s_X4_search hr6)
  · have h := q_if hc h
    rcases Classical.em ((f_X4_foundFuel  r5) ≤ x4) with hc | hc
    · have h := q_it hc h
      rcases Classical.em (536870912 ≤ (r5.1 89 10)) with hc | hc
      · have h := q_it hc h
        have h := Option.some.inj h
        subst h
        change Sm sA m r5
        exact Sm.tr (Sm.tr (Sm.wi rfl (Sm.wi rfl (Sm.wi rfl (Sm.wi rfl (Sm.rf))))) (s_l_X4_findApart_26 _ _ _ _ _ hr4)) (s_X4_search hr6)
      · have h := q_if hc h
        have h := Option.some.inj h
        subst h
        change Sm sA m r5
        exact Sm.tr (Sm.tr (Sm.wi rfl (Sm.wi rfl (Sm.wi rfl (Sm.wi rfl (Sm.rf))))) (s_l_X4_findApart_26 _ _ _ _ _ hr4)) (s_X4_search hr6)
    · have h := q_if hc h
      obtain ⟨r7, hr8, h⟩ := q_bd h
      rcases Classical.em (536870912 ≤ (r7.1 89 10)) with hc | hc
      · have h := q_it hc h
        have h := Option.some.inj h
        subst h
        change Sm sA m r7
        exact Sm.tr (Sm.tr (Sm.tr (Sm.wi rfl (Sm.wi rfl (Sm.wi rfl (Sm.wi rfl (Sm.rf))))) (s_l_X4_findApart_26 _ _ _ _ _ hr4)) (s_X4_search hr6)) (s_X4_search hr8)
      · have h := q_if hc h
        have h := Option.some.inj h
        subst h
        change Sm sA m r7
        exact Sm.tr (Sm.tr (Sm.tr (Sm.wi rfl (Sm.wi rfl (Sm.wi rfl (Sm.wi rfl (Sm.rf))))) (s_l_X4_findApart_26 _ _ _ _ _ hr4)) (s_X4_search hr6)) (s_X4_search hr8)
set_option maxRecDepth 100000 in
set_option maxHeartbeats 4000000 in
theorem s_X6_watchPoint {x1 : Int32} {x2 : Int32} {m : q_Mm} {r : q_Mm} (h : f_X6_watchPoint x1 x2 m = some r) : Sm sA m r := by
  unfold f_X6_watchPoint at h
  obtain ⟨r5, hr6, h⟩ := q_bd h
  obtain ⟨hi7, h⟩ := q_is h
  have h := Option.some.inj h
  subst h
  change Sm sA m (q_wi (q_wi m 32 ((m.1 28 5).toNatClampNeg) r5) 28 5 (((q_wi m 32 ((m.1 28 5).toNatClampNeg) r5).1 28 5) + 1))
  exact Sm.wi rfl (Sm.wi rfl (Sm.rf))
set_option maxRecDepth 100000 in
set_option maxHeartbeats 4000000 in
theorem s_l_X6_watchRing_8  : ∀ (k : Nat) (y1 : Int32) (y2 : Int32) (m : q_Mm) {r : q_Mm}, l_X6_watchRing_8 k y1 y2 m = some r → Sm sA m r := by
  intro k
  induction k with
  | zero => intro y1 y2 m r h; cases h
  | succ k ih =>
    intro y1 y2 m r h
    unfold l_X6_watchRing_8 at h
    rcases Classical.em (y1 ≤ y2) with hc | hc
    · have h := q_it hc h
      have h := Option.some.inj h
      subst h
      change Sm sA m m
      exact Sm.rf
    · have h := q_if hc h
      obtain ⟨r1, hr2, h⟩ := q_bd h
      obtain ⟨r3, hr4, h⟩ := q_bd h
      obtain ⟨r5, hr6, h⟩ := q_bd h
      obtain ⟨r7, hr8, h⟩ := q_bd h
      exact Sm.tr (Sm.tr (Sm.tr (Sm.tr (Sm.tr (Sm.rf) (s_X6_watchPoint hr2)) (s_X6_watchPoint hr4)) (s_X6_watchPoint hr6)) (s_X6_watchPoint hr8)) (ih _ _ _ h)
set_option maxRecDepth 100000 in
set_option maxHeartbeats 4000000 in
theorem s_X6_watchRing {x1 : Int32} {m : q_Mm} {r : q_Mm} (h : f_X6_watchRing x1 m = some r) : Sm sA m r := by
  unfold f_X6_watchRing at h
  obtain ⟨r9, hr10, h⟩ := q_bd h
  have h := Option.some.inj h
  subst h
  change Sm sA m r9
  exact Sm.tr (Sm.wi rfl (Sm.rf)) (s_l_X6_watchRing_8 _ _ _ _ hr10)
set_option maxRecDepth 100000 in
set_option maxHeartbeats 4000000 in
theorem s_l_X9_place_55 {b4 : Nat} : ∀ (k : Nat) (y2 : Int32) (y3 : Int32) (y5 : Int32) (m : q_Mm) {r : q_Mm}, l_X9_place_55 k b4 y2 y3 y5 m = some r → Sm sA m r := by
  intro k
  induction k with
  | zero => intro y2 y3 y5 m r h; cases h
  | succ k ih =>
    intro y2 y3 y5 m r h
    unfold l_X9_place_55 at h
    rcases Classical.em (y2 ≤ y5) with hc | hc
    · have h := q_it hc h
      have h := Option.some.inj h
      subst h
      change Sm sA m m
      exact Sm.rf
    · have h := q_if hc h
      obtain ⟨hi2, h⟩ := q_is h
      obtain ⟨r3, hr4, h⟩ := q_bd h
      exact Sm.tr (Sm.tr (Sm.rf) (s_X7_move hr4)) (ih _ _ _ _ h)
set_option maxRecDepth 100000 in
set_option maxHeartbeats 4000000 in
theorem s_X9_place {x1 : Int32} {x2 : Int32} {x3 : Int32} {m : q_Mm} {r : Int64 × q_Mm} (h : f_X9_place x1 x2 x3 m = some r) : Sm sA m r.2 := by
  unfold f_X9_place at h
  rcases (Classical.em ((f_X9_isShip x1 m) = 0)).symm with hc | hc
  · have h := q_if hc h
    rcases Classical.em ((f_X9_within x2 0 600 m) = 0) with hc | hc
    · have h := q_it hc h
      have h := Option.some.inj h
      subst h
      change Sm sA m m
      exact Sm.rf
    · have h := q_if hc h
      rcases (Classical.em ((f_X9_within x3 0 1 m) = 0)).symm with hc | hc
      · have h := q_if hc h
        obtain ⟨hi1, h⟩ := q_is h
        obtain ⟨r5, hr6, h⟩ := q_bd h
        rcases (Classical.em (x3 = 0)).symm with hc | hc
        · have h := q_if hc h
          have h := Option.some.inj h
          subst h
          change Sm sA m r5
          exact Sm.tr (Sm.tr (Sm.rf) (s_X7_begin rfl)) (s_l_X9_place_55 _ _ _ _ _ hr6)
        · have h := q_it hc h
          have h := Option.some.inj h
          subst h
          change Sm sA m r5
          exact Sm.tr (Sm.tr (Sm.rf) (s_X7_begin rfl)) (s_l_X9_place_55 _ _ _ _ _ hr6)
      · have h := q_it hc h
        have h := Option.some.inj h
        subst h
        change Sm sA m m
        exact Sm.rf
  · have h := q_it hc h
    have h := Option.some.inj h
    subst h
    change Sm sA m m
    exact Sm.rf
set_option maxRecDepth 100000 in
set_option maxHeartbeats 4000000 in
theorem s_X9_nearest {x1 : Int32} {x2 : Int32} {m : q_Mm} {r : Int64 × q_Mm} (h : f_X9_nearest x1 x2 m = some r) : Sm sA m r.2 := by
  unfold f_X9_nearest at h
  rcases Classical.em ((f_X9_within x1 0 600 m) = 0) with hc | hc
  · have h := q_it hc h
    have h := Option.some.inj h
    subst h
    change Sm sA m m
    exact Sm.rf
  · have h := q_if hc h
    rcases (Classical.em ((f_X9_within x2 0 3 m) = 0)).symm with hc | hc
    · have h := q_if hc h
      rcases Classical.em (2 ≤ (m.1 3 1)) with hc | hc
      · have h := q_it hc h
        obtain ⟨hi1, h⟩ := q_is h
        obtain ⟨r2, hr3, h⟩ := q_bd h
        by_cases hs61_0 : x2 = 0
        · have h := q_it hs61_0 h
          have h := Option.some.inj h
          subst h
          change Sm sA m r2
          exact Sm.tr (Sm.rf) (s_X0_findNearest hr3)
        have h := q_if hs61_0 h
        by_cases hs61_1 : x2 = 1
        · have h := q_it hs61_1 h
          have h := Option.some.inj h
          subst h
          change Sm sA m r2
          exact Sm.tr (Sm.rf) (s_X0_findNearest hr3)
        have h := q_if hs61_1 h
        by_cases hs61_2 : x2 = 2
        · have h := q_it hs61_2 h
          have h := Option.some.inj h
          subst h
          change Sm sA m r2
          exact Sm.tr (Sm.rf) (s_X0_findNearest hr3)
        have h := q_if hs61_2 h
        have h := Option.some.inj h
        subst h
        change Sm sA m r2
        exact Sm.tr (Sm.rf) (s_X0_findNearest hr3)
      · have h := q_if hc h
        have h := Option.some.inj h
        subst h
        change Sm sA m m
        exact Sm.rf
    · have h := q_it hc h
      have h := Option.some.inj h
      subst h
      change Sm sA m m
      exact Sm.rf
set_option maxRecDepth 100000 in
set_option maxHeartbeats 4000000 in
theorem s_X9_close {x1 : Int32} {x2 : Int32} {m : q_Mm} {r : Int32 × q_Mm} (h : f_X9_close x1 x2 m = some r) : Sm sA m r.2 := by
  unfold f_X9_close at h
  rcases Classical.em ((f_X9_within x1 0 600 m) = 0) with hc | hc
  · have h := q_it hc h
    have h := Option.some.inj h
    subst h
    change Sm sA m m
    exact Sm.rf
  · have h := q_if hc h
    rcases (Classical.em ((f_X9_within x2 0 1000000 m) = 0)).symm with hc | hc
    · have h := q_if hc h
      obtain ⟨hi1, h⟩ := q_is h
      obtain ⟨r2, hr3, h⟩ := q_bd h
      have h := Option.some.inj h
      subst h
      change Sm sA m r2.2
      exact Sm.tr (Sm.rf) (s_X0_minutesNearer hr3)
    · have h := q_it hc h
      have h := Option.some.inj h
      subst h
      change Sm sA m m
      exact Sm.rf
set_option maxRecDepth 100000 in
set_option maxHeartbeats 4000000 in
theorem s_X9_gets {x1 : Int32} {x2 : Int32} {m : q_Mm} {r : Int32 × q_Mm} (h : f_X9_gets x1 x2 m = some r) : Sm sA m r.2 := by
  unfold f_X9_gets at h
  rcases (Classical.em ((f_X9_isPlan x1.toInt64 m) = 0)).symm with hc | hc
  · have h := q_if hc h
    rcases (Classical.em ((f_X9_within x2 0 600 m) = 0)).symm with hc | hc
    · have h := q_if hc h
      obtain ⟨r1, hr2, h⟩ := q_bd h
      obtain ⟨hi3, h⟩ := q_is h
      have h := Option.some.inj h
      subst h
      change Sm sA m r1
      exact Sm.tr (Sm.rf) (s_X3_waitAt hr2)
    · have h := q_it hc h
      have h := Option.some.inj h
      subst h
      change Sm sA m m
      exact Sm.rf
  · have h := q_it hc h
    have h := Option.some.inj h
    subst h
    change Sm sA m m
    exact Sm.rf
set_option maxRecDepth 100000 in
set_option maxHeartbeats 4000000 in
theorem s_X9_worst {x1 : Int32} {x2 : Int32} {x3 : Int32} {x4 : Int32} {x5 : Int32} {x6 : Int32} {m : q_Mm} {r : Int32 × q_Mm} (h : f_X9_worst x1 x2 x3 x4 x5 x6 m = some r) : Sm sA m r.2 := by
  unfold f_X9_worst at h
  rcases Classical.em ((f_X9_within x1 0 600 m) = 0) with hc | hc
  · have h := q_it hc h
    have h := Option.some.inj h
    subst h
    change Sm sA m m
    exact Sm.rf
  · have h := q_if hc h
    rcases Classical.em ((f_X9_isWeight x2 m) = 0) with hc | hc
    · have h := q_it hc h
      have h := Option.some.inj h
      subst h
      change Sm sA m m
      exact Sm.rf
    · have h := q_if hc h
      rcases Classical.em ((f_X9_isWeight x3 m) = 0) with hc | hc
      · have h := q_it hc h
        have h := Option.some.inj h
        subst h
        change Sm sA m m
        exact Sm.rf
      · have h := q_if hc h
        rcases Classical.em ((f_X9_isWeight x4 m) = 0) with hc | hc
        · have h := q_it hc h
          have h := Option.some.inj h
          subst h
          change Sm sA m m
          exact Sm.rf
        · have h := q_if hc h
          rcases Classical.em ((f_X9_isWeight x5 m) = 0) with hc | hc
          · have h := q_it hc h
            have h := Option.some.inj h
            subst h
            change Sm sA m m
            exact Sm.rf
          · have h := q_if hc h
            rcases (Classical.em ((f_X9_within x6 0 1 m) = 0)).symm with hc | hc
            · have h := q_if hc h
              obtain ⟨r1, hr2, h⟩ := q_bd h
              obtain ⟨r3, hr4, h⟩ := q_bd h
              rcases (Classical.em (x6 = 0)).symm with hc | hc
              · have h := q_if hc h
                have h := Option.some.inj h
                subst h
                change Sm sA m r3
                exact Sm.tr (Sm.tr (Sm.rf) (s_X3_waitAt hr2)) (s_X3_choose hr4)
              · have h := q_it hc h
                have h := Option.some.inj h
                subst h
                change Sm sA m r3
                exact Sm.tr (Sm.tr (Sm.rf) (s_X3_waitAt hr2)) (s_X3_choose hr4)
            · have h := q_it hc h
              have h := Option.some.inj h
              subst h
              change Sm sA m m
              exact Sm.rf
set_option maxRecDepth 100000 in
set_option maxHeartbeats 4000000 in
theorem s_X9_mix {x1 : Int32} {x2 : Int32} {x3 : Int32} {m : q_Mm} {r : Int32 × q_Mm} (h : f_X9_mix x1 x2 x3 m = some r) : Sm sA m r.2 := by
  unfold f_X9_mix at h
  rcases Classical.em ((f_X9_within x1 0 600 m) = 0) with hc | hc
  · have h := q_it hc h
    have h := Option.some.inj h
    subst h
    change Sm sA m m
    exact Sm.rf
  · have h := q_if hc h
    rcases Classical.em ((f_X9_within x2 1 12 m) = 0) with hc | hc
    · have h := q_it hc h
      have h := Option.some.inj h
      subst h
      change Sm sA m m
      exact Sm.rf
    · have h := q_if hc h
      rcases (Classical.em ((f_X9_within x3 0 4 m) = 0)).symm with hc | hc
      · have h := q_if hc h
        obtain ⟨r1, hr2, h⟩ := q_bd h
        obtain ⟨r3, hr4, h⟩ := q_bd h
        rcases (Classical.em (x3 = 4)).symm with hc | hc
        · have h := q_if hc h
          obtain ⟨hi5, h⟩ := q_is h
          have h := Option.some.inj h
          subst h
          change Sm sA m r3
          exact Sm.tr (Sm.tr (Sm.rf) (s_X3_waitAt hr2)) (s_X3_findMix hr4)
        · have h := q_it hc h
          have h := Option.some.inj h
          subst h
          change Sm sA m r3
          exact Sm.tr (Sm.tr (Sm.rf) (s_X3_waitAt hr2)) (s_X3_findMix hr4)
      · have h := q_it hc h
        have h := Option.some.inj h
        subst h
        change Sm sA m m
        exact Sm.rf
set_option maxRecDepth 100000 in
set_option maxHeartbeats 4000000 in
theorem s_X9_seen {x1 : Int32} {x2 : Int32} {m : q_Mm} {r : Int32 × q_Mm} (h : f_X9_seen x1 x2 m = some r) : Sm sA m r.2 := by
  unfold f_X9_seen at h
  rcases Classical.em ((f_X9_within x1 0 (((1 : Int32) <<< ((m.1 28 3) &&& 31)) - 1) m) = 0) with hc | hc
  · have h := q_it hc h
    have h := Option.some.inj h
    subst h
    change Sm sA m m
    exact Sm.rf
  · have h := q_if hc h
    rcases (Classical.em ((f_X9_within x2 1 50 m) = 0)).symm with hc | hc
    · have h := q_if hc h
      obtain ⟨r1, hr2, h⟩ := q_bd h
      obtain ⟨r3, hr4, h⟩ := q_bd h
      have h := Option.some.inj h
      subst h
      change Sm sA m r1
      exact Sm.tr (Sm.rf) (s_X6_watchRing hr2)
    · have h := q_it hc h
      have h := Option.some.inj h
      subst h
      change Sm sA m m
      exact Sm.rf
set_option maxRecDepth 100000 in
set_option maxHeartbeats 4000000 in
theorem s_X9_best {x1 : Int32} {x2 : Int32} {m : q_Mm} {r : Int32 × q_Mm} (h : f_X9_best x1 x2 m = some r) : Sm sA m r.2 := by
  unfold f_X9_best at h
  rcases Classical.em ((f_X9_within x1 0 (m.1 28 3) m) = 0) with hc | hc
  · have h := q_it hc h
    have h := Option.some.inj h
    subst h
    change Sm sA m m
    exact Sm.rf
  · have h := q_if hc h
    rcases (Classical.em ((f_X9_within x2 1 50 m) = 0)).symm with hc | hc
    · have h := q_if hc h
      obtain ⟨r1, hr2, h⟩ := q_bd h
      obtain ⟨r3, hr4, h⟩ := q_bd h
      have h := Option.some.inj h
      subst h
      change Sm sA m r1
      exact Sm.tr (Sm.rf) (s_X6_watchRing hr2)
    · have h := q_it hc h
      have h := Option.some.inj h
      subst h
      change Sm sA m m
      exact Sm.rf
set_option maxRecDepth 100000 in
set_option maxHeartbeats 4000000 in
theorem s_X9_told {x1 : Int32} {x2 : Int32} {x3 : Int32} {x4 : Int32} {m : q_Mm} {r : Int64 × q_Mm} (h : f_X9_told x1 x2 x3 x4 m = some r) : Sm sA m r.2 := by
  unfold f_X9_told at h
  rcases Classical.em ((f_X9_isStart x1 x2 x3 m) = 0) with hc | hc
  · have h := q_it hc h
    have h := Option.some.inj h
    subst h
    change Sm sA m m
    exact Sm.rf
  · have h := q_if hc h
    rcases (Classical.em ((f_X9_within x4 0 3 m) = 0)).symm with hc | hc
    · have h := q_if hc h
      rcases (Classical.em ((m.1 38 3) = 0)).symm with hc | hc
      · have h := q_if hc h
        obtain ⟨hi1, h⟩ := q_is h
        obtain ⟨r2, hr3, h⟩ := q_bd h
        by_cases hs73_0 : x4 = 0
        · have h := q_it hs73_0 h
          have h := Option.some.inj h
          subst h
          change Sm sA m r2
          exact Sm.tr (Sm.tr (Sm.rf) s_ghost) (s_X2_explain hr3)
        have h := q_if hs73_0 h
        by_cases hs73_1 : x4 = 1
        · have h := q_it hs73_1 h
          have h := Option.some.inj h
          subst h
          change Sm sA m r2
          exact Sm.tr (Sm.tr (Sm.rf) s_ghost) (s_X2_explain hr3)
        have h := q_if hs73_1 h
        by_cases hs73_2 : x4 = 2
        · have h := q_it hs73_2 h
          have h := Option.some.inj h
          subst h
          change Sm sA m r2
          exact Sm.tr (Sm.tr (Sm.rf) s_ghost) (s_X2_explain hr3)
        have h := q_if hs73_2 h
        have h := Option.some.inj h
        subst h
        change Sm sA m r2
        exact Sm.tr (Sm.tr (Sm.rf) s_ghost) (s_X2_explain hr3)
      · have h := q_it hc h
        have h := Option.some.inj h
        subst h
        change Sm sA m m
        exact Sm.rf
    · have h := q_it hc h
      have h := Option.some.inj h
      subst h
      change Sm sA m m
      exact Sm.rf
set_option maxRecDepth 100000 in
set_option maxHeartbeats 4000000 in
theorem s_l_X10_missNone_2  : ∀ (k : Nat) (y1 : Int32) (m : q_Mm) {r : q_Mm}, l_X10_missNone_2 k y1 m = some r → Sm sA m r := by
  intro k
  induction k with
  | zero => intro y1 m r h; cases h
  | succ k ih =>
    intro y1 m r h
    unfold l_X10_missNone_2 at h
    rcases Classical.em (11 ≤ y1) with hc | hc
    · have h := q_it hc h
      have h := Option.some.inj h
      subst h
      change Sm sA m m
      exact Sm.rf
    · have h := q_if hc h
      obtain ⟨hi1, h⟩ := q_is h
      exact Sm.tr (Sm.wi rfl (Sm.rf)) (ih _ _ h)
set_option maxRecDepth 100000 in
set_option maxHeartbeats 4000000 in
theorem s_X10_missNone  {m : q_Mm} {r : q_Mm} (h : f_X10_missNone  m = some r) : Sm sA m r := by
  unfold f_X10_missNone at h
  obtain ⟨r2, hr3, h⟩ := q_bd h
  have h := Option.some.inj h
  subst h
  change Sm sA m r2
  exact Sm.tr (Sm.rf) (s_l_X10_missNone_2 _ _ _ hr3)
set_option maxRecDepth 100000 in
set_option maxHeartbeats 4000000 in
theorem s_X10_course {x1 : Int32} {x2 : Int32} {m : q_Mm} {r : Int32 × q_Mm} (h : f_X10_course x1 x2 m = some r) : Sm sA m r.2 := by
  unfold f_X10_course at h
  rcases (Classical.em ((f_X10_isPlan x1 m) = 0)).symm with hc | hc
  · have h := q_if hc h
    rcases (Classical.em ((f_X10_in x2.toInt64 0 600 m) = 0)).symm with hc | hc
    · have h := q_if hc h
      obtain ⟨r1, hr2, h⟩ := q_bd h
      obtain ⟨r3, hr4, h⟩ := q_bd h
      have h := Option.some.inj h
      subst h
      change Sm sA m r1
      exact Sm.tr (Sm.rf) (s_X10_missNone hr2)
    · have h := q_it hc h
      have h := Option.some.inj h
      subst h
      change Sm sA m m
      exact Sm.rf
  · have h := q_it hc h
    have h := Option.some.inj h
    subst h
    change Sm sA m m
    exact Sm.rf
set_option maxRecDepth 100000 in
set_option maxHeartbeats 4000000 in
theorem s_X10_go {x1 : Int32} {x2 : Int32} {m : q_Mm} {r : q_Mm} (h : f_X10_go x1 x2 m = r) : Sm sA m r := by
  unfold f_X10_go at h
  subst h
  change Sm sA m (q_wl (q_wl m 58 5 ((m.2 58 5) + (((f_X10_alongOf x1 m).toInt64) * x2.toInt64))) 58 6 (((q_wl m 58 5 ((m.2 58 5) + (((f_X10_alongOf x1 m).toInt64) * x2.toInt64))).2 58 6) + (((f_X10_acrossOf x1 (q_wl m 58 5 ((m.2 58 5) + (((f_X10_alongOf x1 m).toInt64) * x2.toInt64)))).toInt64) * x2.toInt64)))
  exact Sm.wl (Sm.wl (Sm.rf))
set_option maxRecDepth 100000 in
set_option maxHeartbeats 4000000 in
theorem s_l_X10_runPlan_17  : ∀ (k : Nat) (y1 : Int32) (y2 : Int32) (y3 : Int32) (y4 : Int32) (m : q_Mm) {r : q_Mm}, l_X10_runPlan_17 k y1 y2 y3 y4 m = some r → Sm sA m r := by
  intro k
  induction k with
  | zero => intro y1 y2 y3 y4 m r h; cases h
  | succ k ih =>
    intro y1 y2 y3 y4 m r h
    unfold l_X10_runPlan_17 at h
    rcases Classical.em (y2 ≤ y4) with hc | hc
    · have h := q_it hc h
      have h := Option.some.inj h
      subst h
      change Sm sA m m
      exact Sm.rf
    · have h := q_if hc h
      obtain ⟨r3, hr4, h⟩ := q_bd h
      exact Sm.tr (Sm.tr (Sm.rf) (s_X10_go rfl)) (ih _ _ _ _ _ h)
set_option maxRecDepth 100000 in
set_option maxHeartbeats 4000000 in
theorem s_X10_runPlan {x1 : Int32} {x2 : Int32} {x3 : Int32} {m : q_Mm} {r : q_Mm} (h : f_X10_runPlan x1 x2 x3 m = some r) : Sm sA m r := by
  unfold f_X10_runPlan at h
  obtain ⟨r1, hr2, h⟩ := q_bd h
  obtain ⟨r5, hr6, h⟩ := q_bd h
  have h := Option.some.inj h
  subst h
  change Sm sA m r5
  exact Sm.tr (Sm.wl (Sm.wl (Sm.tr (Sm.rf) (s_X10_missNone hr2)))) (s_l_X10_runPlan_17 _ _ _ _ _ _ hr6)
set_option maxRecDepth 100000 in
set_option maxHeartbeats 4000000 in
theorem s_X10_ground {x1 : Int32} {x2 : Int32} {x3 : Int32} {m : q_Mm} {r : Int64 × q_Mm} (h : f_X10_ground x1 x2 x3 m = some r) : Sm sA m r.2 := by
  unfold f_X10_ground at h
  rcases (Classical.em ((f_X10_isPlan x1 m) = 0)).symm with hc | hc
  · have h := q_if hc h
    rcases Classical.em ((f_X10_in x2.toInt64 0 600 m) = 0) with hc | hc
    · have h := q_it hc h
      have h := Option.some.inj h
      subst h
      change Sm sA m m
      exact Sm.rf
    · have h := q_if hc h
      rcases (Classical.em ((f_X10_in x3.toInt64 0 1 m) = 0)).symm with hc | hc
      · have h := q_if hc h
        obtain ⟨r1, hr2, h⟩ := q_bd h
        rcases (Classical.em (x3 = 0)).symm with hc | hc
        · have h := q_if hc h
          have h := Option.some.inj h
          subst h
          change Sm sA m r1
          exact Sm.tr (Sm.rf) (s_X10_runPlan hr2)
        · have h := q_it hc h
          have h := Option.some.inj h
          subst h
          change Sm sA m r1
          exact Sm.tr (Sm.rf) (s_X10_runPlan hr2)
      · have h := q_it hc h
        have h := Option.some.inj h
        subst h
        change Sm sA m m
        exact Sm.rf
  · have h := q_it hc h
    have h := Option.some.inj h
    subst h
    change Sm sA m m
    exact Sm.rf
set_option maxRecDepth 100000 in
set_option maxHeartbeats 4000000 in
theorem s_X10_step {x1 : Int32} {x2 : Int32} {x3 : Int32} {m : q_Mm} {r : q_Mm} (h : f_X10_step x1 x2 x3 m = some r) : Sm sA m r := by
  unfold f_X10_step at h
  rcases Classical.em (x1 < (m.1 58 16)) with hc | hc
  · have h := q_it hc h
    rcases Classical.em ((0 : Int32) = 0) with hc | hc
    · have h := q_it hc h
      obtain ⟨r1, hr2, h⟩ := q_bd h
      have h := Option.some.inj h
      subst h
      change Sm sA m (f_X10_go r1 x3 m)
      exact Sm.tr (Sm.rf) (s_X10_go rfl)
    · have h := q_if hc h
      have h := Option.some.inj h
      subst h
      change Sm sA m (f_X10_go 0 x3 m)
      exact Sm.tr (Sm.rf) (s_X10_go rfl)
  · have h := q_if hc h
    rcases Classical.em ((m.1 58 17) ≤ x1) with hc | hc
    · have h := q_it hc h
      rcases Classical.em ((0 : Int32) = 0) with hc | hc
      · have h := q_it hc h
        obtain ⟨r3, hr4, h⟩ := q_bd h
        have h := Option.some.inj h
        subst h
        change Sm sA m (f_X10_go r3 x3 m)
        exact Sm.tr (Sm.rf) (s_X10_go rfl)
      · have h := q_if hc h
        have h := Option.some.inj h
        subst h
        change Sm sA m (f_X10_go 0 x3 m)
        exact Sm.tr (Sm.rf) (s_X10_go rfl)
    · have h := q_if hc h
      rcases Classical.em ((1 : Int32) = 0) with hc | hc
      · have h := q_it hc h
        obtain ⟨r5, hr6, h⟩ := q_bd h
        have h := Option.some.inj h
        subst h
        change Sm sA m (f_X10_go r5 x3 m)
        exact Sm.tr (Sm.rf) (s_X10_go rfl)
      · have h := q_if hc h
        have h := Option.some.inj h
        subst h
        change Sm sA m (f_X10_go 0 x3 m)
        exact Sm.tr (Sm.rf) (s_X10_go rfl)
set_option maxRecDepth 100000 in
set_option maxHeartbeats 4000000 in
theorem s_l_X10_layMisses_6  : ∀ (k : Nat) (y1 : Int32) (y2 : Int32) (m : q_Mm) {r : q_Mm}, l_X10_layMisses_6 k y1 y2 m = some r → Sm sA m r := by
  intro k
  induction k with
  | zero => intro y1 y2 m r h; cases h
  | succ k ih =>
    intro y1 y2 m r h
    unfold l_X10_layMisses_6 at h
    rcases Classical.em ((m.1 58 15) ≤ y2) with hc | hc
    · have h := q_it hc h
      have h := Option.some.inj h
      subst h
      change Sm sA m m
      exact Sm.rf
    · have h := q_if hc h
      obtain ⟨hi3, h⟩ := q_is h
      obtain ⟨hi4, h⟩ := q_is h
      obtain ⟨hi5, h⟩ := q_is h
      rcases (Classical.em ((m.1 67 y2.toNatClampNeg) = y1)).symm with hc | hc
      · have h := q_if hc h
        obtain ⟨hi6, h⟩ := q_is h
        exact Sm.tr (Sm.wi rfl (Sm.rf)) (ih _ _ _ h)
      · have h := q_it hc h
        obtain ⟨hi7, h⟩ := q_is h
        obtain ⟨hi8, h⟩ := q_is h
        exact Sm.tr (Sm.wi rfl (Sm.rf)) (ih _ _ _ h)
set_option maxRecDepth 100000 in
set_option maxHeartbeats 4000000 in
theorem s_X10_layMisses {x1 : Int32} {m : q_Mm} {r : q_Mm} (h : f_X10_layMisses x1 m = some r) : Sm sA m r := by
  unfold f_X10_layMisses at h
  obtain ⟨r1, hr2, h⟩ := q_bd h
  obtain ⟨r9, hr10, h⟩ := q_bd h
  have h := Option.some.inj h
  subst h
  change Sm sA m r9
  exact Sm.tr (Sm.tr (Sm.rf) (s_X10_missNone hr2)) (s_l_X10_layMisses_6 _ _ _ _ hr10)
set_option maxRecDepth 100000 in
set_option maxHeartbeats 4000000 in
theorem s_l_X10_place_76  : ∀ (k : Nat) (y1 : Int32) (y2 : Int32) (y3 : Int32) (y4 : Int32) (m : q_Mm) {r : q_Mm}, l_X10_place_76 k y1 y2 y3 y4 m = some r → Sm sA m r := by
  intro k
  induction k with
  | zero => intro y1 y2 y3 y4 m r h; cases h
  | succ k ih =>
    intro y1 y2 y3 y4 m r h
    unfold l_X10_place_76 at h
    rcases Classical.em (y2 ≤ y4) with hc | hc
    · have h := q_it hc h
      have h := Option.some.inj h
      subst h
      change Sm sA m m
      exact Sm.rf
    · have h := q_if hc h
      obtain ⟨hi5, h⟩ := q_is h
      obtain ⟨hi6, h⟩ := q_is h
      obtain ⟨r7, hr8, h⟩ := q_bd h
      exact Sm.tr (Sm.tr (Sm.rf) (s_X10_step hr8)) (ih _ _ _ _ _ h)
set_option maxRecDepth 100000 in
set_option maxHeartbeats 4000000 in
theorem s_X10_place {x1 : Int32} {x2 : Int32} {x3 : Int32} {m : q_Mm} {r : Int64 × q_Mm} (h : f_X10_place x1 x2 x3 m = some r) : Sm sA m r.2 := by
  unfold f_X10_place at h
  rcases (Classical.em ((f_X10_in x1.toInt64 0 (((m.1 58 11) - 1).toInt64) m) = 0)).symm with hc | hc
  · have h := q_if hc h
    rcases Classical.em ((f_X10_in x2.toInt64 0 600 m) = 0) with hc | hc
    · have h := q_it hc h
      have h := Option.some.inj h
      subst h
      change Sm sA m m
      exact Sm.rf
    · have h := q_if hc h
      rcases (Classical.em ((f_X10_in x3.toInt64 0 1 m) = 0)).symm with hc | hc
      · have h := q_if hc h
        obtain ⟨r1, hr2, h⟩ := q_bd h
        obtain ⟨hi3, h⟩ := q_is h
        obtain ⟨hi4, h⟩ := q_is h
        obtain ⟨r9, hr10, h⟩ := q_bd h
        rcases (Classical.em (x3 = 0)).symm with hc | hc
        · have h := q_if hc h
          have h := Option.some.inj h
          subst h
          change Sm sA m r9
          exact Sm.tr (Sm.wl (Sm.wl (Sm.tr (Sm.rf) (s_X10_layMisses hr2)))) (s_l_X10_place_76 _ _ _ _ _ _ hr10)
        · have h := q_it hc h
          have h := Option.some.inj h
          subst h
          change Sm sA m r9
          exact Sm.tr (Sm.wl (Sm.wl (Sm.tr (Sm.rf) (s_X10_layMisses hr2)))) (s_l_X10_place_76 _ _ _ _ _ _ hr10)
      · have h := q_it hc h
        have h := Option.some.inj h
        subst h
        change Sm sA m m
        exact Sm.rf
  · have h := q_it hc h
    have h := Option.some.inj h
    subst h
    change Sm sA m m
    exact Sm.rf
set_option maxRecDepth 100000 in
set_option maxHeartbeats 4000000 in
theorem s_l_X10_begin_2  : ∀ (k : Nat) (y1 : Int32) (m : q_Mm) {r : q_Mm}, l_X10_begin_2 k y1 m = some r → Sm sA m r := by
  intro k
  induction k with
  | zero => intro y1 m r h; cases h
  | succ k ih =>
    intro y1 m r h
    unfold l_X10_begin_2 at h
    rcases Classical.em ((m.1 58 11) ≤ y1) with hc | hc
    · have h := q_it hc h
      have h := Option.some.inj h
      subst h
      change Sm sA m m
      exact Sm.rf
    · have h := q_if hc h
      obtain ⟨hi1, h⟩ := q_is h
      obtain ⟨hi2, h⟩ := q_is h
      obtain ⟨hi3, h⟩ := q_is h
      obtain ⟨hi4, h⟩ := q_is h
      exact Sm.tr (Sm.wl (Sm.wl (Sm.rf))) (ih _ _ h)
set_option maxRecDepth 100000 in
set_option maxHeartbeats 4000000 in
theorem s_X10_begin  {m : q_Mm} {r : q_Mm} (h : f_X10_begin  m = some r) : Sm sA m r := by
  unfold f_X10_begin at h
  obtain ⟨r5, hr6, h⟩ := q_bd h
  have h := Option.some.inj h
  subst h
  change Sm sA m r5
  exact Sm.tr (Sm.rf) (s_l_X10_begin_2 _ _ _ hr6)
set_option maxRecDepth 100000 in
set_option maxHeartbeats 4000000 in
theorem s_l_X10_stepAll_2  : ∀ (k : Nat) (y1 : Int32) (y2 : Int32) (m : q_Mm) {r : q_Mm}, l_X10_stepAll_2 k y1 y2 m = some r → Sm sA m r := by
  intro k
  induction k with
  | zero => intro y1 y2 m r h; cases h
  | succ k ih =>
    intro y1 y2 m r h
    unfold l_X10_stepAll_2 at h
    rcases Classical.em ((m.1 58 11) ≤ y2) with hc | hc
    · have h := q_it hc h
      have h := Option.some.inj h
      subst h
      change Sm sA m m
      exact Sm.rf
    · have h := q_if hc h
      obtain ⟨r1, hr2, h⟩ := q_bd h
      obtain ⟨hi3, h⟩ := q_is h
      obtain ⟨hi4, h⟩ := q_is h
      obtain ⟨hi5, h⟩ := q_is h
      obtain ⟨hi6, h⟩ := q_is h
      obtain ⟨r7, hr8, h⟩ := q_bd h
      obtain ⟨hi9, h⟩ := q_is h
      obtain ⟨hi10, h⟩ := q_is h
      exact Sm.tr (Sm.wl (Sm.wl (Sm.tr (Sm.wl (Sm.wl (Sm.tr (Sm.rf) (s_X10_layMisses hr2)))) (s_X10_step hr8)))) (ih _ _ _ h)
set_option maxRecDepth 100000 in
set_option maxHeartbeats 4000000 in
theorem s_X10_stepAll {x1 : Int32} {m : q_Mm} {r : q_Mm} (h : f_X10_stepAll x1 m = some r) : Sm sA m r := by
  unfold f_X10_stepAll at h
  obtain ⟨r11, hr12, h⟩ := q_bd h
  have h := Option.some.inj h
  subst h
  change Sm sA m r11
  exact Sm.tr (Sm.rf) (s_l_X10_stepAll_2 _ _ _ _ hr12)
set_option maxRecDepth 100000 in
set_option maxHeartbeats 4000000 in
theorem s_l_X10_nearest_60  : ∀ (k : Nat) (y1 : Int32) (y2 : Int32) (y3 : Int64) (y5 : Int32) (y6 : Int32) (y7 : Int32) (y8 : Int32) (m : q_Mm) {r : Int64 × Int32 × Int32 × Int32 × q_Mm}, l_X10_nearest_60 k y1 y2 y3 y5 y6 y7 y8 m = some r → Sm sA m r.2.2.2.2 := by
  intro k
  induction k with
  | zero => intro y1 y2 y3 y5 y6 y7 y8 m r h; cases h
  | succ k ih =>
    intro y1 y2 y3 y5 y6 y7 y8 m r h
    unfold l_X10_nearest_60 at h
    rcases Classical.em (y1 < y8) with hc | hc
    · have h := q_it hc h
      have h := Option.some.inj h
      subst h
      change Sm sA m m
      exact Sm.rf
    · have h := q_if hc h
      obtain ⟨r11, hr12, h⟩ := q_bd h
      obtain ⟨r13, hr14, h⟩ := q_bd h
      exact Sm.tr (Sm.tr (Sm.rf) (s_X10_stepAll hr14)) (ih _ _ _ _ _ _ _ _ h)
set_option maxRecDepth 100000 in
set_option maxHeartbeats 4000000 in
theorem s_X10_nearest {x1 : Int32} {x2 : Int32} {m : q_Mm} {r : Int64 × q_Mm} (h : f_X10_nearest x1 x2 m = some r) : Sm sA m r.2 := by
  unfold f_X10_nearest at h
  rcases Classical.em ((f_X10_in x1.toInt64 0 600 m) = 0) with hc | hc
  · have h := q_it hc h
    have h := Option.some.inj h
    subst h
    change Sm sA m m
    exact Sm.rf
  · have h := q_if hc h
    rcases (Classical.em ((f_X10_in x2.toInt64 0 3 m) = 0)).symm with hc | hc
    · have h := q_if hc h
      rcases Classical.em (2 ≤ (m.1 58 11)) with hc | hc
      · have h := q_it hc h
        obtain ⟨r1, hr2, h⟩ := q_bd h
        obtain ⟨r15, hr16, h⟩ := q_bd h
        rcases (Classical.em (x2 = 0)).symm with hc | hc
        · have h := q_if hc h
          rcases (Classical.em (x2 = 1)).symm with hc | hc
          · have h := q_if hc h
            rcases (Classical.em (x2 = 2)).symm with hc | hc
            · have h := q_if hc h
              have h := Option.some.inj h
              subst h
              change Sm sA m r15.2.2.2.2
              exact Sm.tr (Sm.tr (Sm.rf) (s_X10_begin hr2)) (s_l_X10_nearest_60 _ _ _ _ _ _ _ _ _ hr16)
            · have h := q_it hc h
              have h := Option.some.inj h
              subst h
              change Sm sA m r15.2.2.2.2
              exact Sm.tr (Sm.tr (Sm.rf) (s_X10_begin hr2)) (s_l_X10_nearest_60 _ _ _ _ _ _ _ _ _ hr16)
          · have h := q_it hc h
            have h := Option.some.inj h
            subst h
            change Sm sA m r15.2.2.2.2
            exact Sm.tr (Sm.tr (Sm.rf) (s_X10_begin hr2)) (s_l_X10_nearest_60 _ _ _ _ _ _ _ _ _ hr16)
        · have h := q_it hc h
          have h := Option.some.inj h
          subst h
          change Sm sA m r15.2.2.2.2
          exact Sm.tr (Sm.tr (Sm.rf) (s_X10_begin hr2)) (s_l_X10_nearest_60 _ _ _ _ _ _ _ _ _ hr16)
      · have h := q_if hc h
        have h := Option.some.inj h
        subst h
        change Sm sA m m
        exact Sm.rf
    · have h := q_it hc h
      have h := Option.some.inj h
      subst h
      change Sm sA m m
      exact Sm.rf
set_option maxRecDepth 100000 in
set_option maxHeartbeats 4000000 in
theorem s_l_X10_close_36  : ∀ (k : Nat) (y1 : Int32) (y2 : Int32) (y3 : Int32) (y4 : Int32) (m : q_Mm) {r : Int32 × q_Mm}, l_X10_close_36 k y1 y2 y3 y4 m = some r → Sm sA m r.2 := by
  intro k
  induction k with
  | zero => intro y1 y2 y3 y4 m r h; cases h
  | succ k ih =>
    intro y1 y2 y3 y4 m r h
    unfold l_X10_close_36 at h
    rcases Classical.em (y1 < y4) with hc | hc
    · have h := q_it hc h
      have h := Option.some.inj h
      subst h
      change Sm sA m m
      exact Sm.rf
    · have h := q_if hc h
      obtain ⟨r7, hr8, h⟩ := q_bd h
      rcases Classical.em (r7 = 0) with hc | hc
      · have h := q_it hc h
        obtain ⟨r9, hr10, h⟩ := q_bd h
        exact Sm.tr (Sm.tr (Sm.rf) (s_X10_stepAll hr10)) (ih _ _ _ _ _ h)
      · have h := q_if hc h
        obtain ⟨r11, hr12, h⟩ := q_bd h
        exact Sm.tr (Sm.tr (Sm.rf) (s_X10_stepAll hr12)) (ih _ _ _ _ _ h)
set_option maxRecDepth 100000 in
set_option maxHeartbeats 4000000 in
theorem s_X10_close {x1 : Int32} {x2 : Int32} {m : q_Mm} {r : Int32 × q_Mm} (h : f_X10_close x1 x2 m = some r) : Sm sA m r.2 := by
  unfold f_X10_close at h
  rcases Classical.em ((f_X10_in x1.toInt64 0 600 m) = 0) with hc | hc
  · have h := q_it hc h
    have h := Option.some.inj h
    subst h
    change Sm sA m m
    exact Sm.rf
  · have h := q_if hc h
    rcases (Classical.em ((f_X10_in x2.toInt64 0 1000000 m) = 0)).symm with hc | hc
    · have h := q_if hc h
      obtain ⟨r1, hr2, h⟩ := q_bd h
      obtain ⟨r13, hr14, h⟩ := q_bd h
      have h := Option.some.inj h
      subst h
      change Sm sA m r13.2
      exact Sm.tr (Sm.tr (Sm.rf) (s_X10_begin hr2)) (s_l_X10_close_36 _ _ _ _ _ _ hr14)
    · have h := q_it hc h
      have h := Option.some.inj h
      subst h
      change Sm sA m m
      exact Sm.rf
set_option maxRecDepth 100000 in
set_option maxHeartbeats 4000000 in
theorem s_l_X10_comes_25  : ∀ (k : Nat) (y1 : Int32) (y2 : Int32) (m : q_Mm) {rr : (Int32 × q_Mm) ⊕ (q_Mm)}, l_X10_comes_25 k y1 y2 m = some rr → (∀ q, rr = .inl q → Sm sA m q.2) ∧ (∀ q, rr = .inr q → Sm sA m q) := by
  intro k
  induction k with
  | zero => intro y1 y2 m rr h; cases h
  | succ k ih =>
    intro y1 y2 m rr h
    unfold l_X10_comes_25 at h
    rcases Classical.em (600 < y2) with hc | hc
    · have h := q_it hc h
      have h := Option.some.inj h
      subst h
      exact ⟨(fun q e => (by cases e)), (fun q e => (by cases e; change Sm sA m m; exact Sm.rf))⟩
    · have h := q_if hc h
      rcases Classical.em ((f_X10_isWithin ((m.2 58 5) - ((m.1 58 21).toInt64)) ((m.2 58 6) - ((m.1 58 22).toInt64)) (((1000 * ((m.1 58 23).toInt64)) * y2.toInt64) + ((m.1 58 24).toInt64)) m) = 0) with hc | hc
      · have h := q_it hc h
        obtain ⟨r3, hr4, h⟩ := q_bd h
        exact ⟨fun q e => Sm.tr (Sm.tr (Sm.rf) (s_X10_go rfl)) ((ih _ _ _ h).1 q e), fun q e => Sm.tr (Sm.tr (Sm.rf) (s_X10_go rfl)) ((ih _ _ _ h).2 q e)⟩
      · have h := q_if hc h
        have h := Option.some.inj h
        subst h
        exact ⟨(fun q e => (by cases e; change Sm sA m m; exact Sm.rf)), (fun q e => (by cases e))⟩
set_option maxRecDepth 100000 in
set_option maxHeartbeats 4000000 in
theorem s_X10_comes {x1 : Int32} {m : q_Mm} {r : Int32 × q_Mm} (h : f_X10_comes x1 m = some r) : Sm sA m r.2 := by
  unfold f_X10_comes at h
  rcases (Classical.em ((f_X10_isPlan x1 m) = 0)).symm with hc | hc
  · have h := q_if hc h
    obtain ⟨r1, hr2, h⟩ := q_bd h
    obtain ⟨r5, hr6, h⟩ := q_bd h
    rcases r5 with r7 | r8
    · dsimp only at h
      have h := Option.some.inj h
      subst h
      change Sm sA m r7.2
      exact Sm.tr (Sm.wl (Sm.wl (Sm.tr (Sm.rf) (s_X10_missNone hr2)))) ((s_l_X10_comes_25 _ _ _ _ hr6).1 _ rfl)
    · dsimp only at h
      have h := Option.some.inj h
      subst h
      change Sm sA m r8
      exact Sm.tr (Sm.wl (Sm.wl (Sm.tr (Sm.rf) (s_X10_missNone hr2)))) ((s_l_X10_comes_25 _ _ _ _ hr6).2 _ rfl)
  · have h := q_it hc h
    have h := Option.some.inj h
    subst h
    change Sm sA m m
    exact Sm.rf
set_option maxRecDepth 100000 in
set_option maxHeartbeats 4000000 in
theorem s_l_X10_layPlans_2  : ∀ (k : Nat) (y1 : Int32) (y2 : Int32) (m : q_Mm) {r : q_Mm}, l_X10_layPlans_2 k y1 y2 m = some r → Sm sA m r := by
  intro k
  induction k with
  | zero => intro y1 y2 m r h; cases h
  | succ k ih =>
    intro y1 y2 m r h
    unfold l_X10_layPlans_2 at h
    rcases Classical.em (4 ≤ y2) with hc | hc
    · have h := q_it hc h
      have h := Option.some.inj h
      subst h
      change Sm sA m m
      exact Sm.rf
    · have h := q_if hc h
      obtain ⟨r1, hr2, h⟩ := q_bd h
      obtain ⟨hi3, h⟩ := q_is h
      obtain ⟨hi4, h⟩ := q_is h
      exact Sm.tr (Sm.wl (Sm.wl (Sm.tr (Sm.rf) (s_X10_runPlan hr2)))) (ih _ _ _ h)
set_option maxRecDepth 100000 in
set_option maxHeartbeats 4000000 in
theorem s_X10_layPlans {x1 : Int32} {m : q_Mm} {r : q_Mm} (h : f_X10_layPlans x1 m = some r) : Sm sA m r := by
  unfold f_X10_layPlans at h
  obtain ⟨r5, hr6, h⟩ := q_bd h
  have h := Option.some.inj h
  subst h
  change Sm sA m r5
  exact Sm.tr (Sm.rf) (s_l_X10_layPlans_2 _ _ _ _ hr6)
set_option maxRecDepth 100000 in
set_option maxHeartbeats 4000000 in
theorem s_X10_gets {x1 : Int32} {x2 : Int32} {m : q_Mm} {r : Int32 × q_Mm} (h : f_X10_gets x1 x2 m = some r) : Sm sA m r.2 := by
  unfold f_X10_gets at h
  rcases (Classical.em ((f_X10_isPlan x1 m) = 0)).symm with hc | hc
  · have h := q_if hc h
    rcases (Classical.em ((f_X10_in x2.toInt64 0 600 m) = 0)).symm with hc | hc
    · have h := q_if hc h
      obtain ⟨r1, hr2, h⟩ := q_bd h
      obtain ⟨r3, hr4, h⟩ := q_bd h
      have h := Option.some.inj h
      subst h
      change Sm sA m r1
      exact Sm.tr (Sm.rf) (s_X10_layPlans hr2)
    · have h := q_it hc h
      have h := Option.some.inj h
      subst h
      change Sm sA m m
      exact Sm.rf
  · have h := q_it hc h
    have h := Option.some.inj h
    subst h
    change Sm sA m m
    exact Sm.rf
set_option maxRecDepth 100000 in
set_option maxHeartbeats 4000000 in
theorem s_l_X10_layCaught_7  : ∀ (k : Nat) (y1 : Int32) (y2 : Int32) (m : q_Mm) {r : q_Mm}, l_X10_layCaught_7 k y1 y2 m = some r → Sm sA m r := by
  intro k
  induction k with
  | zero => intro y1 y2 m r h; cases h
  | succ k ih =>
    intro y1 y2 m r h
    unfold l_X10_layCaught_7 at h
    rcases Classical.em (4 ≤ y2) with hc | hc
    · have h := q_it hc h
      have h := Option.some.inj h
      subst h
      change Sm sA m m
      exact Sm.rf
    · have h := q_if hc h
      obtain ⟨r3, hr4, h⟩ := q_bd h
      obtain ⟨hi5, h⟩ := q_is h
      exact Sm.tr (Sm.wi rfl (Sm.rf)) (ih _ _ _ h)
set_option maxRecDepth 100000 in
set_option maxHeartbeats 4000000 in
theorem s_X10_layCaught {x1 : Int32} {m : q_Mm} {r : q_Mm} (h : f_X10_layCaught x1 m = some r) : Sm sA m r := by
  unfold f_X10_layCaught at h
  obtain ⟨r1, hr2, h⟩ := q_bd h
  obtain ⟨r6, hr7, h⟩ := q_bd h
  have h := Option.some.inj h
  subst h
  change Sm sA m r6
  exact Sm.tr (Sm.tr (Sm.rf) (s_X10_layPlans hr2)) (s_l_X10_layCaught_7 _ _ _ _ hr7)
set_option maxRecDepth 100000 in
set_option maxHeartbeats 4000000 in
theorem s_l_X10_worstOf_10  : ∀ (k : Nat) (y1 : Int32) (y2 : Int32) (m : q_Mm) {r : Int32 × q_Mm}, l_X10_worstOf_10 k y1 y2 m = some r → Sm sA m r.2 := by
  intro k
  induction k with
  | zero => intro y1 y2 m r h; cases h
  | succ k ih =>
    intro y1 y2 m r h
    unfold l_X10_worstOf_10 at h
    rcases Classical.em (4 ≤ y2) with hc | hc
    · have h := q_it hc h
      have h := Option.some.inj h
      subst h
      change Sm sA m m
      exact Sm.rf
    · have h := q_if hc h
      obtain ⟨r3, hr4, h⟩ := q_bd h
      obtain ⟨hi5, h⟩ := q_is h
      rcases Classical.em ((m.1 75 y2.toNatClampNeg) = 0) with hc | hc
      · have h := q_it hc h
        exact Sm.tr (Sm.rf) (ih _ _ _ h)
      · have h := q_if hc h
        rcases Classical.em ((m.1 58 28) < 0) with hc | hc
        · have h := q_it hc h
          exact Sm.tr (Sm.wi rfl (Sm.rf)) (ih _ _ _ h)
        · have h := q_if hc h
          rcases Classical.em (r3 ≤ y1) with hc | hc
          · have h := q_it hc h
            exact Sm.tr (Sm.rf) (ih _ _ _ h)
          · have h := q_if hc h
            exact Sm.tr (Sm.wi rfl (Sm.rf)) (ih _ _ _ h)
set_option maxRecDepth 100000 in
set_option maxHeartbeats 4000000 in
theorem s_X10_worstOf  {m : q_Mm} {r : Int32 × q_Mm} (h : f_X10_worstOf  m = some r) : Sm sA m r.2 := by
  unfold f_X10_worstOf at h
  obtain ⟨r6, hr7, h⟩ := q_bd h
  have h := Option.some.inj h
  subst h
  change Sm sA m r6.2
  exact Sm.tr (Sm.wi rfl (Sm.rf)) (s_l_X10_worstOf_10 _ _ _ _ hr7)
set_option maxRecDepth 100000 in
set_option maxHeartbeats 4000000 in
theorem s_X10_worst {x1 : Int32} {x2 : Int32} {x3 : Int32} {x4 : Int32} {x5 : Int32} {x6 : Int32} {m : q_Mm} {r : Int32 × q_Mm} (h : f_X10_worst x1 x2 x3 x4 x5 x6 m = some r) : Sm sA m r.2 := by
  unfold f_X10_worst at h
  rcases Classical.em ((f_X10_in x1.toInt64 0 600 m) = 0) with hc | hc
  · have h := q_it hc h
    have h := Option.some.inj h
    subst h
    change Sm sA m m
    exact Sm.rf
  · have h := q_if hc h
    rcases Classical.em ((f_X10_in x2.toInt64 0 20 m) = 0) with hc | hc
    · have h := q_it hc h
      have h := Option.some.inj h
      subst h
      change Sm sA m m
      exact Sm.rf
    · have h := q_if hc h
      rcases Classical.em ((f_X10_in x3.toInt64 0 20 m) = 0) with hc | hc
      · have h := q_it hc h
        have h := Option.some.inj h
        subst h
        change Sm sA m m
        exact Sm.rf
      · have h := q_if hc h
        rcases Classical.em ((f_X10_in x4.toInt64 0 20 m) = 0) with hc | hc
        · have h := q_it hc h
          have h := Option.some.inj h
          subst h
          change Sm sA m m
          exact Sm.rf
        · have h := q_if hc h
          rcases Classical.em ((f_X10_in x5.toInt64 0 20 m) = 0) with hc | hc
          · have h := q_it hc h
            have h := Option.some.inj h
            subst h
            change Sm sA m m
            exact Sm.rf
          · have h := q_if hc h
            rcases (Classical.em ((f_X10_in x6.toInt64 0 1 m) = 0)).symm with hc | hc
            · have h := q_if hc h
              obtain ⟨r1, hr2, h⟩ := q_bd h
              obtain ⟨r3, hr4, h⟩ := q_bd h
              rcases (Classical.em (x6 = 0)).symm with hc | hc
              · have h := q_if hc h
                have h := Option.some.inj h
                subst h
                change Sm sA m r3.2
                exact Sm.tr (Sm.wi rfl (Sm.wi rfl (Sm.wi rfl (Sm.wi rfl (Sm.tr (Sm.rf) (s_X10_layCaught hr2)))))) (s_X10_worstOf hr4)
              · have h := q_it hc h
                have h := Option.some.inj h
                subst h
                change Sm sA m r3.2
                exact Sm.tr (Sm.wi rfl (Sm.wi rfl (Sm.wi rfl (Sm.wi rfl (Sm.tr (Sm.rf) (s_X10_layCaught hr2)))))) (s_X10_worstOf hr4)
            · have h := q_it hc h
              have h := Option.some.inj h
              subst h
              change Sm sA m m
              exact Sm.rf
set_option maxRecDepth 100000 in
set_option maxHeartbeats 4000000 in
theorem s_l_X10_mix_157  : ∀ (k : Nat) (y2 : Int32) (y3 : Int32) (y4 : Int32) (y5 : Int32) (y7 : Int32) (m : q_Mm) {r : q_Mm}, l_X10_mix_157 k y2 y3 y4 y5 y7 m = some r → Sm sA m r := by
  intro k
  induction k with
  | zero => intro y2 y3 y4 y5 y7 m r h; cases h
  | succ k ih =>
    intro y2 y3 y4 y5 y7 m r h
    unfold l_X10_mix_157 at h
    rcases Classical.em (4 ≤ y7) with hc | hc
    · have h := q_it hc h
      have h := Option.some.inj h
      subst h
      change Sm sA m m
      exact Sm.rf
    · have h := q_if hc h
      obtain ⟨hi5, h⟩ := q_is h
      obtain ⟨hi6, h⟩ := q_is h
      exact Sm.tr (Sm.wi rfl (Sm.rf)) (ih _ _ _ _ _ _ h)
set_option maxRecDepth 100000 in
set_option maxHeartbeats 4000000 in
theorem s_l_X10_mix_50  : ∀ (k : Nat) (y2 : Int32) (y3 : Int32) (y4 : Int32) (y5 : Int32) (m : q_Mm) {r : Int32 × q_Mm}, l_X10_mix_50 k y2 y3 y4 y5 m = some r → Sm sA m r.2 := by
  intro k
  induction k with
  | zero => intro y2 y3 y4 y5 m r h; cases h
  | succ k ih =>
    intro y2 y3 y4 y5 m r h
    unfold l_X10_mix_50 at h
    rcases Classical.em (2197 ≤ y5) with hc | hc
    · have h := q_it hc h
      have h := Option.some.inj h
      subst h
      change Sm sA m m
      exact Sm.rf
    · have h := q_if hc h
      rcases Classical.em (((q_wi (q_wi (q_wi (q_wi m 74 ((0 : Int32).toNatClampNeg) (y5 / 169)) 74 ((1 : Int32).toNatClampNeg) (q_rm (y5 / 13) 13)) 74 ((2 : Int32).toNatClampNeg) (q_rm y5 13)) 74 ((3 : Int32).toNatClampNeg) (((y2 - ((q_wi (q_wi (q_wi m 74 ((0 : Int32).toNatClampNeg) (y5 / 169)) 74 ((1 : Int32).toNatClampNeg) (q_rm (y5 / 13) 13)) 74 ((2 : Int32).toNatClampNeg) (q_rm y5 13)).1 74 (0 : Int32).toNatClampNeg)) - ((q_wi (q_wi (q_wi m 74 ((0 : Int32).toNatClampNeg) (y5 / 169)) 74 ((1 : Int32).toNatClampNeg) (q_rm (y5 / 13) 13)) 74 ((2 : Int32).toNatClampNeg) (q_rm y5 13)).1 74 (1 : Int32).toNatClampNeg)) - ((q_wi (q_wi (q_wi m 74 ((0 : Int32).toNatClampNeg) (y5 / 169)) 74 ((1 : Int32).toNatClampNeg) (q_rm (y5 / 13) 13)) 74 ((2 : Int32).toNatClampNeg) (q_rm y5 13)).1 74 (2 : Int32).toNatClampNeg))).1 74 (3 : Int32).toNatClampNeg) < 0) with hc | hc
      · have h := q_it hc h
        exact Sm.tr (Sm.wi rfl (Sm.wi rfl (Sm.wi rfl (Sm.wi rfl (Sm.rf))))) (ih _ _ _ _ _ h)
      · have h := q_if hc h
        obtain ⟨r3, hr4, h⟩ := q_bd h
        rcases Classical.em (y4 < 0) with hc | hc
        · have h := q_it hc h
          obtain ⟨r7, hr8, h⟩ := q_bd h
          exact Sm.tr (Sm.tr (Sm.tr (Sm.wi rfl (Sm.wi rfl (Sm.wi rfl (Sm.wi rfl (Sm.rf))))) (s_X10_worstOf hr4)) (s_l_X10_mix_157 _ _ _ _ _ _ _ hr8)) (ih _ _ _ _ _ h)
        · have h := q_if hc h
          rcases Classical.em (y4 ≤ r3.1) with hc | hc
          · have h := q_it hc h
            exact Sm.tr (Sm.tr (Sm.wi rfl (Sm.wi rfl (Sm.wi rfl (Sm.wi rfl (Sm.rf))))) (s_X10_worstOf hr4)) (ih _ _ _ _ _ h)
          · have h := q_if hc h
            obtain ⟨r9, hr10, h⟩ := q_bd h
            exact Sm.tr (Sm.tr (Sm.tr (Sm.wi rfl (Sm.wi rfl (Sm.wi rfl (Sm.wi rfl (Sm.rf))))) (s_X10_worstOf hr4)) (s_l_X10_mix_157 _ _ _ _ _ _ _ hr10)) (ih _ _ _ _ _ h)
set_option maxRecDepth 100000 in
set_option maxHeartbeats 4000000 in
theorem s_X10_mix {x1 : Int32} {x2 : Int32} {x3 : Int32} {m : q_Mm} {r : Int32 × q_Mm} (h : f_X10_mix x1 x2 x3 m = some r) : Sm sA m r.2 := by
  unfold f_X10_mix at h
  rcases Classical.em ((f_X10_in x1.toInt64 0 600 m) = 0) with hc | hc
  · have h := q_it hc h
    have h := Option.some.inj h
    subst h
    change Sm sA m m
    exact Sm.rf
  · have h := q_if hc h
    rcases Classical.em ((f_X10_in x2.toInt64 1 12 m) = 0) with hc | hc
    · have h := q_it hc h
      have h := Option.some.inj h
      subst h
      change Sm sA m m
      exact Sm.rf
    · have h := q_if hc h
      rcases (Classical.em ((f_X10_in x3.toInt64 0 4 m) = 0)).symm with hc | hc
      · have h := q_if hc h
        obtain ⟨r1, hr2, h⟩ := q_bd h
        obtain ⟨r11, hr12, h⟩ := q_bd h
        rcases (Classical.em (x3 = 4)).symm with hc | hc
        · have h := q_if hc h
          obtain ⟨hi13, h⟩ := q_is h
          have h := Option.some.inj h
          subst h
          change Sm sA m r11.2
          exact Sm.tr (Sm.tr (Sm.rf) (s_X10_layCaught hr2)) (s_l_X10_mix_50 _ _ _ _ _ _ hr12)
        · have h := q_it hc h
          have h := Option.some.inj h
          subst h
          change Sm sA m r11.2
          exact Sm.tr (Sm.tr (Sm.rf) (s_X10_layCaught hr2)) (s_l_X10_mix_50 _ _ _ _ _ _ hr12)
      · have h := q_it hc h
        have h := Option.some.inj h
        subst h
        change Sm sA m m
        exact Sm.rf
set_option maxRecDepth 100000 in
set_option maxHeartbeats 4000000 in
theorem s_l_X10_findSeers_47  : ∀ (k : Nat) (y1 : Int32) (y2 : Int32) (y3 : Int32) (y4 : Int32) (y5 : Int32) (m : q_Mm) {r : q_Mm}, l_X10_findSeers_47 k y1 y2 y3 y4 y5 m = some r → Sm sA m r := by
  intro k
  induction k with
  | zero => intro y1 y2 y3 y4 y5 m r h; cases h
  | succ k ih =>
    intro y1 y2 y3 y4 y5 m r h
    unfold l_X10_findSeers_47 at h
    rcases Classical.em ((m.1 58 34) ≤ y5) with hc | hc
    · have h := q_it hc h
      have h := Option.some.inj h
      subst h
      change Sm sA m m
      exact Sm.rf
    · have h := q_if hc h
      obtain ⟨hi2, h⟩ := q_is h
      obtain ⟨hi3, h⟩ := q_is h
      obtain ⟨hi4, h⟩ := q_is h
      obtain ⟨hi5, h⟩ := q_is h
      rcases Classical.em ((f_X10_isWithin ((y3 - (m.1 77 y5.toNatClampNeg)).toInt64) ((y4 - (m.1 78 y5.toNatClampNeg)).toInt64) ((m.1 79 y5.toNatClampNeg).toInt64) m) = 0) with hc | hc
      · have h := q_it hc h
        obtain ⟨hi6, h⟩ := q_is h
        exact Sm.tr (Sm.wi rfl (Sm.rf)) (ih _ _ _ _ _ _ h)
      · have h := q_if hc h
        obtain ⟨hi7, h⟩ := q_is h
        exact Sm.tr (Sm.wi rfl (Sm.rf)) (ih _ _ _ _ _ _ h)
set_option maxRecDepth 100000 in
set_option maxHeartbeats 4000000 in
theorem s_l_X10_findSeers_14  : ∀ (k : Nat) (y1 : Int32) (y2 : Int32) (y3 : Int32) (y4 : Int32) (m : q_Mm) {r : Int32 × q_Mm}, l_X10_findSeers_14 k y1 y2 y3 y4 m = some r → Sm sA m r.2 := by
  intro k
  induction k with
  | zero => intro y1 y2 y3 y4 m r h; cases h
  | succ k ih =>
    intro y1 y2 y3 y4 m r h
    unfold l_X10_findSeers_14 at h
    rcases Classical.em (y1 < y4) with hc | hc
    · have h := q_it hc h
      have h := Option.some.inj h
      subst h
      change Sm sA m m
      exact Sm.rf
    · have h := q_if hc h
      rcases Classical.em ((f_X10_size y3 m) = y1) with hc | hc
      · have h := q_it hc h
        obtain ⟨hi1, h⟩ := q_is h
        obtain ⟨r8, hr9, h⟩ := q_bd h
        exact Sm.tr (Sm.tr (Sm.wi rfl (Sm.rf)) (s_l_X10_findSeers_47 _ _ _ _ _ _ _ hr9)) (ih _ _ _ _ _ h)
      · have h := q_if hc h
        rcases (Classical.em ((f_X10_size y4 m) = y1)).symm with hc | hc
        · have h := q_if hc h
          exact Sm.tr (Sm.rf) (ih _ _ _ _ _ h)
        · have h := q_it hc h
          obtain ⟨hi10, h⟩ := q_is h
          obtain ⟨r11, hr12, h⟩ := q_bd h
          exact Sm.tr (Sm.tr (Sm.wi rfl (Sm.rf)) (s_l_X10_findSeers_47 _ _ _ _ _ _ _ hr12)) (ih _ _ _ _ _ h)
set_option maxRecDepth 100000 in
set_option maxHeartbeats 4000000 in
theorem s_l_X10_findSeers_5  : ∀ (k : Nat) (y1 : Int32) (y2 : Int32) (y3 : Int32) (m : q_Mm) {r : q_Mm}, l_X10_findSeers_5 k y1 y2 y3 m = some r → Sm sA m r := by
  intro k
  induction k with
  | zero => intro y1 y2 y3 m r h; cases h
  | succ k ih =>
    intro y1 y2 y3 m r h
    unfold l_X10_findSeers_5 at h
    rcases Classical.em (y1 < y3) with hc | hc
    · have h := q_it hc h
      have h := Option.some.inj h
      subst h
      change Sm sA m m
      exact Sm.rf
    · have h := q_if hc h
      obtain ⟨r13, hr14, h⟩ := q_bd h
      exact Sm.tr (Sm.tr (Sm.rf) (s_l_X10_findSeers_14 _ _ _ _ _ _ hr14)) (ih _ _ _ _ h)
set_option maxRecDepth 100000 in
set_option maxHeartbeats 4000000 in
theorem s_X10_findSeers {x1 : Int32} {m : q_Mm} {r : q_Mm} (h : f_X10_findSeers x1 m = some r) : Sm sA m r := by
  unfold f_X10_findSeers at h
  obtain ⟨r15, hr16, h⟩ := q_bd h
  have h := Option.some.inj h
  subst h
  change Sm sA m r15
  exact Sm.tr (Sm.rf) (s_l_X10_findSeers_5 _ _ _ _ _ hr16)
set_option maxRecDepth 100000 in
set_option maxHeartbeats 4000000 in
theorem s_X10_seen {x1 : Int32} {x2 : Int32} {m : q_Mm} {r : Int32 × q_Mm} (h : f_X10_seen x1 x2 m = some r) : Sm sA m r.2 := by
  unfold f_X10_seen at h
  rcases Classical.em ((f_X10_in x1.toInt64 0 ((((1 : Int32) <<< ((m.1 58 34) &&& 31)) - 1).toInt64) m) = 0) with hc | hc
  · have h := q_it hc h
    have h := Option.some.inj h
    subst h
    change Sm sA m m
    exact Sm.rf
  · have h := q_if hc h
    rcases (Classical.em ((f_X10_in x2.toInt64 1 50 m) = 0)).symm with hc | hc
    · have h := q_if hc h
      obtain ⟨r1, hr2, h⟩ := q_bd h
      obtain ⟨r3, hr4, h⟩ := q_bd h
      have h := Option.some.inj h
      subst h
      change Sm sA m r1
      exact Sm.tr (Sm.rf) (s_X10_findSeers hr2)
    · have h := q_it hc h
      have h := Option.some.inj h
      subst h
      change Sm sA m m
      exact Sm.rf
set_option maxRecDepth 100000 in
set_option maxHeartbeats 4000000 in
theorem s_X10_best {x1 : Int32} {x2 : Int32} {m : q_Mm} {r : Int32 × q_Mm} (h : f_X10_best x1 x2 m = some r) : Sm sA m r.2 := by
  unfold f_X10_best at h
  rcases Classical.em ((f_X10_in x1.toInt64 0 ((m.1 58 34).toInt64) m) = 0) with hc | hc
  · have h := q_it hc h
    have h := Option.some.inj h
    subst h
    change Sm sA m m
    exact Sm.rf
  · have h := q_if hc h
    rcases (Classical.em ((f_X10_in x2.toInt64 1 50 m) = 0)).symm with hc | hc
    · have h := q_if hc h
      obtain ⟨r1, hr2, h⟩ := q_bd h
      obtain ⟨r9, hr10, h⟩ := q_bd h
      have h := Option.some.inj h
      subst h
      change Sm sA m r1
      exact Sm.tr (Sm.rf) (s_X10_findSeers hr2)
    · have h := q_it hc h
      have h := Option.some.inj h
      subst h
      change Sm sA m m
      exact Sm.rf
set_option maxRecDepth 100000 in
set_option maxHeartbeats 4000000 in
theorem s_l_X10_findCosts_20  : ∀ (k : Nat) (y1 : Int32) (y2 : Int32) (y3 : Int32) (y4 : Int32) (y5 : Int32) (y6 : Int32) (m : q_Mm) {r : q_Mm}, l_X10_findCosts_20 k y1 y2 y3 y4 y5 y6 m = some r → Sm sA m r := by
  intro k
  induction k with
  | zero => intro y1 y2 y3 y4 y5 y6 m r h; cases h
  | succ k ih =>
    intro y1 y2 y3 y4 y5 y6 m r h
    unfold l_X10_findCosts_20 at h
    rcases Classical.em (144 ≤ y6) with hc | hc
    · have h := q_it hc h
      have h := Option.some.inj h
      subst h
      change Sm sA m m
      exact Sm.rf
    · have h := q_if hc h
      rcases (Classical.em (y6 = y1)).symm with hc | hc
      · have h := q_if hc h
        rcases (Classical.em (y4 = y2)).symm with hc | hc
        · have h := q_if hc h
          obtain ⟨r1, hr2, h⟩ := q_bd h
          obtain ⟨hi3, h⟩ := q_is h
          exact Sm.tr (Sm.wi rfl (Sm.rf)) (ih _ _ _ _ _ _ _ h)
        · have h := q_it hc h
          obtain ⟨hi4, h⟩ := q_is h
          exact Sm.tr (Sm.wi rfl (Sm.rf)) (ih _ _ _ _ _ _ _ h)
      · have h := q_it hc h
        obtain ⟨r5, hr6, h⟩ := q_bd h
        rcases Classical.em (r5 = 0) with hc | hc
        · have h := q_it hc h
          rcases (Classical.em (y4 = y2)).symm with hc | hc
          · have h := q_if hc h
            obtain ⟨r7, hr8, h⟩ := q_bd h
            obtain ⟨hi9, h⟩ := q_is h
            exact Sm.tr (Sm.wi rfl (Sm.rf)) (ih _ _ _ _ _ _ _ h)
          · have h := q_it hc h
            obtain ⟨hi10, h⟩ := q_is h
            exact Sm.tr (Sm.wi rfl (Sm.rf)) (ih _ _ _ _ _ _ _ h)
        · have h := q_if hc h
          obtain ⟨hi11, h⟩ := q_is h
          exact Sm.tr (Sm.wi rfl (Sm.rf)) (ih _ _ _ _ _ _ _ h)
set_option maxRecDepth 100000 in
set_option maxHeartbeats 4000000 in
theorem s_l_X10_findCosts_11  : ∀ (k : Nat) (y1 : Int32) (y2 : Int32) (y3 : Int32) (y4 : Int32) (y5 : Int32) (m : q_Mm) {r : q_Mm}, l_X10_findCosts_11 k y1 y2 y3 y4 y5 m = some r → Sm sA m r := by
  intro k
  induction k with
  | zero => intro y1 y2 y3 y4 y5 m r h; cases h
  | succ k ih =>
    intro y1 y2 y3 y4 y5 m r h
    unfold l_X10_findCosts_11 at h
    rcases Classical.em (y3 < y5) with hc | hc
    · have h := q_it hc h
      have h := Option.some.inj h
      subst h
      change Sm sA m m
      exact Sm.rf
    · have h := q_if hc h
      obtain ⟨r12, hr13, h⟩ := q_bd h
      exact Sm.tr (Sm.tr (Sm.rf) (s_l_X10_findCosts_20 _ _ _ _ _ _ _ _ hr13)) (ih _ _ _ _ _ _ h)
set_option maxRecDepth 100000 in
set_option maxHeartbeats 4000000 in
theorem s_l_X10_findCosts_3  : ∀ (k : Nat) (y1 : Int32) (y2 : Int32) (y3 : Int32) (y4 : Int32) (m : q_Mm) {r : q_Mm}, l_X10_findCosts_3 k y1 y2 y3 y4 m = some r → Sm sA m r := by
  intro k
  induction k with
  | zero => intro y1 y2 y3 y4 m r h; cases h
  | succ k ih =>
    intro y1 y2 y3 y4 m r h
    unfold l_X10_findCosts_3 at h
    rcases Classical.em (y4 < 0) with hc | hc
    · have h := q_it hc h
      have h := Option.some.inj h
      subst h
      change Sm sA m m
      exact Sm.rf
    · have h := q_if hc h
      obtain ⟨r14, hr15, h⟩ := q_bd h
      exact Sm.tr (Sm.tr (Sm.rf) (s_l_X10_findCosts_11 _ _ _ _ _ _ _ hr15)) (ih _ _ _ _ _ h)
set_option maxRecDepth 100000 in
set_option maxHeartbeats 4000000 in
theorem s_X10_findCosts {x1 : Int32} {x2 : Int32} {x3 : Int32} {m : q_Mm} {r : q_Mm} (h : f_X10_findCosts x1 x2 x3 m = some r) : Sm sA m r := by
  unfold f_X10_findCosts at h
  obtain ⟨r16, hr17, h⟩ := q_bd h
  have h := Option.some.inj h
  subst h
  change Sm sA m r16
  exact Sm.tr (Sm.rf) (s_l_X10_findCosts_3 _ _ _ _ _ _ hr17)
set_option maxRecDepth 100000 in
set_option maxHeartbeats 4000000 in
theorem s_l_X10_misfit_18  : ∀ (k : Nat) (y3 : Int32) (y4 : Int32) (y5 : Int64) (y7 : Int32) (m : q_Mm) {r : Int64 × q_Mm}, l_X10_misfit_18 k y3 y4 y5 y7 m = some r → Sm sA m r.2 := by
  intro k
  induction k with
  | zero => intro y3 y4 y5 y7 m r h; cases h
  | succ k ih =>
    intro y3 y4 y5 y7 m r h
    unfold l_X10_misfit_18 at h
    rcases Classical.em (600 < y7) with hc | hc
    · have h := q_it hc h
      have h := Option.some.inj h
      subst h
      change Sm sA m m
      exact Sm.rf
    · have h := q_if hc h
      obtain ⟨r4, hr5, h⟩ := q_bd h
      obtain ⟨r6, hr7, h⟩ := q_bd h
      exact Sm.tr (Sm.tr (Sm.rf) (s_X10_step hr7)) (ih _ _ _ _ _ h)
set_option maxRecDepth 100000 in
set_option maxHeartbeats 4000000 in
theorem s_X10_misfit {x1 : Int32} {x2 : Int32} {x3 : Int32} {x4 : Int32} {m : q_Mm} {r : Int64 × q_Mm} (h : f_X10_misfit x1 x2 x3 x4 m = some r) : Sm sA m r.2 := by
  unfold f_X10_misfit at h
  obtain ⟨r8, hr9, h⟩ := q_bd h
  have h := Option.some.inj h
  subst h
  change Sm sA m r8.2
  exact Sm.tr (Sm.wl (Sm.wl (Sm.rf))) (s_l_X10_misfit_18 _ _ _ _ _ _ hr9)
set_option maxRecDepth 100000 in
set_option maxHeartbeats 4000000 in
theorem s_X10_tryFit {x1 : Int32} {x2 : Int32} {x3 : Int32} {x4 : Int32} {x5 : Int32} {x6 : Int32} {m : q_Mm} {r : q_Mm} (h : f_X10_tryFit x1 x2 x3 x4 x5 x6 m = some r) : Sm sA m r := by
  unfold f_X10_tryFit at h
  obtain ⟨r1, hr2, h⟩ := q_bd h
  rcases Classical.em (x5 < 0) with hc | hc
  · have h := q_it hc h
    obtain ⟨r3, hr4, h⟩ := q_bd h
    rcases Classical.em ((r3.2.2 58 48) < 0) with hc | hc
    · have h := q_it hc h
      have h := Option.some.inj h
      subst h
      change Sm sA m (q_wi (q_wi (q_wi (q_wl r3.2 58 48 r3.1) 58 49 x4) 58 50 x5) 58 51 x6)
      exact Sm.wi rfl (Sm.wi rfl (Sm.wi rfl (Sm.wl (Sm.tr (Sm.tr (Sm.rf) (s_X10_missNone hr2)) (s_X10_misfit hr4)))))
    · have h := q_if hc h
      rcases Classical.em ((r3.2.2 58 48) ≤ r3.1) with hc | hc
      · have h := q_it hc h
        have h := Option.some.inj h
        subst h
        change Sm sA m r3.2
        exact Sm.tr (Sm.tr (Sm.rf) (s_X10_missNone hr2)) (s_X10_misfit hr4)
      · have h := q_if hc h
        have h := Option.some.inj h
        subst h
        change Sm sA m (q_wi (q_wi (q_wi (q_wl r3.2 58 48 r3.1) 58 49 x4) 58 50 x5) 58 51 x6)
        exact Sm.wi rfl (Sm.wi rfl (Sm.wi rfl (Sm.wl (Sm.tr (Sm.tr (Sm.rf) (s_X10_missNone hr2)) (s_X10_misfit hr4)))))
  · have h := q_if hc h
    obtain ⟨hi5, h⟩ := q_is h
    obtain ⟨r6, hr7, h⟩ := q_bd h
    rcases Classical.em ((r6.2.2 58 48) < 0) with hc | hc
    · have h := q_it hc h
      have h := Option.some.inj h
      subst h
      change Sm sA m (q_wi (q_wi (q_wi (q_wl r6.2 58 48 r6.1) 58 49 x4) 58 50 x5) 58 51 x6)
      exact Sm.wi rfl (Sm.wi rfl (Sm.wi rfl (Sm.wl (Sm.tr (Sm.wi rfl (Sm.tr (Sm.rf) (s_X10_missNone hr2))) (s_X10_misfit hr7)))))
    · have h := q_if hc h
      rcases Classical.em ((r6.2.2 58 48) ≤ r6.1) with hc | hc
      · have h := q_it hc h
        have h := Option.some.inj h
        subst h
        change Sm sA m r6.2
        exact Sm.tr (Sm.wi rfl (Sm.tr (Sm.rf) (s_X10_missNone hr2))) (s_X10_misfit hr7)
      · have h := q_if hc h
        have h := Option.some.inj h
        subst h
        change Sm sA m (q_wi (q_wi (q_wi (q_wl r6.2 58 48 r6.1) 58 49 x4) 58 50 x5) 58 51 x6)
        exact Sm.wi rfl (Sm.wi rfl (Sm.wi rfl (Sm.wl (Sm.tr (Sm.wi rfl (Sm.tr (Sm.rf) (s_X10_missNone hr2))) (s_X10_misfit hr7)))))
set_option maxRecDepth 100000 in
set_option maxHeartbeats 4000000 in
theorem s_l_X10_told_103  : ∀ (k : Nat) (y1 : Int32) (y2 : Int32) (y3 : Int32) (y4 : Int32) (y5 : Int32) (y6 : Int32) (y7 : Int32) (y8 : Int32) (m : q_Mm) {r : q_Mm}, l_X10_told_103 k y1 y2 y3 y4 y5 y6 y7 y8 m = some r → Sm sA m r := by
  intro k
  induction k with
  | zero => intro y1 y2 y3 y4 y5 y6 y7 y8 m r h; cases h
  | succ k ih =>
    intro y1 y2 y3 y4 y5 y6 y7 y8 m r h
    unfold l_X10_told_103 at h
    obtain ⟨hi3, h⟩ := q_is h
    rcases Classical.em ((m.1 61 (m.1 58 3).toNatClampNeg) ≤ y8) with hc | hc
    · have h := q_it hc h
      have h := Option.some.inj h
      subst h
      change Sm sA m m
      exact Sm.rf
    · have h := q_if hc h
      obtain ⟨r4, hr5, h⟩ := q_bd h
      exact Sm.tr (Sm.tr (Sm.rf) (s_X10_tryFit hr5)) (ih _ _ _ _ _ _ _ _ _ h)
set_option maxRecDepth 100000 in
set_option maxHeartbeats 4000000 in
theorem s_l_X10_told_93  : ∀ (k : Nat) (y1 : Int32) (y2 : Int32) (y3 : Int32) (y4 : Int32) (y5 : Int32) (y6 : Int32) (y7 : Int32) (m : q_Mm) {r : q_Mm}, l_X10_told_93 k y1 y2 y3 y4 y5 y6 y7 m = some r → Sm sA m r := by
  intro k
  induction k with
  | zero => intro y1 y2 y3 y4 y5 y6 y7 m r h; cases h
  | succ k ih =>
    intro y1 y2 y3 y4 y5 y6 y7 m r h
    unfold l_X10_told_93 at h
    rcases Classical.em (10 ≤ y7) with hc | hc
    · have h := q_it hc h
      have h := Option.some.inj h
      subst h
      change Sm sA m m
      exact Sm.rf
    · have h := q_if hc h
      obtain ⟨r6, hr7, h⟩ := q_bd h
      exact Sm.tr (Sm.tr (Sm.rf) (s_l_X10_told_103 _ _ _ _ _ _ _ _ _ _ hr7)) (ih _ _ _ _ _ _ _ _ h)
set_option maxRecDepth 100000 in
set_option maxHeartbeats 4000000 in
theorem s_l_X10_told_47  : ∀ (k : Nat) (y1 : Int32) (y2 : Int32) (y3 : Int32) (y4 : Int32) (y5 : Int32) (m : q_Mm) {r : q_Mm}, l_X10_told_47 k y1 y2 y3 y4 y5 m = some r → Sm sA m r := by
  intro k
  induction k with
  | zero => intro y1 y2 y3 y4 y5 m r h; cases h
  | succ k ih =>
    intro y1 y2 y3 y4 y5 m r h
    unfold l_X10_told_47 at h
    rcases Classical.em (11 ≤ y5) with hc | hc
    · have h := q_it hc h
      have h := Option.some.inj h
      subst h
      change Sm sA m m
      exact Sm.rf
    · have h := q_if hc h
      rcases (Classical.em ((q_rm y5 2) = 0)).symm with hc | hc
      · have h := q_if hc h
        obtain ⟨r1, hr2, h⟩ := q_bd h
        obtain ⟨r8, hr9, h⟩ := q_bd h
        exact Sm.tr (Sm.tr (Sm.tr (Sm.rf) (s_X10_tryFit hr2)) (s_l_X10_told_93 _ _ _ _ _ _ _ _ _ hr9)) (ih _ _ _ _ _ _ h)
      · have h := q_it hc h
        obtain ⟨r10, hr11, h⟩ := q_bd h
        obtain ⟨r12, hr13, h⟩ := q_bd h
        exact Sm.tr (Sm.tr (Sm.tr (Sm.rf) (s_X10_tryFit hr11)) (s_l_X10_told_93 _ _ _ _ _ _ _ _ _ hr13)) (ih _ _ _ _ _ _ h)
set_option maxRecDepth 100000 in
set_option maxHeartbeats 4000000 in
theorem s_X10_told {x1 : Int32} {x2 : Int32} {x3 : Int32} {x4 : Int32} {m : q_Mm} {r : Int64 × q_Mm} (h : f_X10_told x1 x2 x3 x4 m = some r) : Sm sA m r.2 := by
  unfold f_X10_told at h
  rcases Classical.em ((f_X10_isStart x1 x2 x3 m) = 0) with hc | hc
  · have h := q_it hc h
    have h := Option.some.inj h
    subst h
    change Sm sA m m
    exact Sm.rf
  · have h := q_if hc h
    rcases (Classical.em ((f_X10_in x4.toInt64 0 3 m) = 0)).symm with hc | hc
    · have h := q_if hc h
      rcases (Classical.em ((m.1 58 47) = 0)).symm with hc | hc
      · have h := q_if hc h
        obtain ⟨r14, hr15, h⟩ := q_bd h
        rcases (Classical.em (x4 = 0)).symm with hc | hc
        · have h := q_if hc h
          rcases (Classical.em (x4 = 1)).symm with hc | hc
          · have h := q_if hc h
            rcases (Classical.em (x4 = 2)).symm with hc | hc
            · have h := q_if hc h
              have h := Option.some.inj h
              subst h
              change Sm sA m r14
              exact Sm.tr (Sm.wl (Sm.rf)) (s_l_X10_told_47 _ _ _ _ _ _ _ hr15)
            · have h := q_it hc h
              have h := Option.some.inj h
              subst h
              change Sm sA m r14
              exact Sm.tr (Sm.wl (Sm.rf)) (s_l_X10_told_47 _ _ _ _ _ _ _ hr15)
          · have h := q_it hc h
            have h := Option.some.inj h
            subst h
            change Sm sA m r14
            exact Sm.tr (Sm.wl (Sm.rf)) (s_l_X10_told_47 _ _ _ _ _ _ _ hr15)
        · have h := q_it hc h
          have h := Option.some.inj h
          subst h
          change Sm sA m r14
          exact Sm.tr (Sm.wl (Sm.rf)) (s_l_X10_told_47 _ _ _ _ _ _ _ hr15)
      · have h := q_it hc h
        have h := Option.some.inj h
        subst h
        change Sm sA m m
        exact Sm.rf
    · have h := q_it hc h
      have h := Option.some.inj h
      subst h
      change Sm sA m m
      exact Sm.rf
