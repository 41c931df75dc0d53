/-! PURE: told -/
theorem explain9 {I : Nat → Nat → Int32} {p c n : Nat} {x1 x2 sp : Int32} {s : q_Mm} (hC : Ct I p c n) (hg : Go x1 x2 sp) (hT : Tg I s.1) (hG : s.1 42 0 = x1 ∧ s.1 42 1 = x2 ∧ s.1 42 2 = sp) : ∃ s', f_X2_explain (46 + 3 * p) s = some s' ∧ Tg I s'.1 ∧ z9t s' = ti t9 (fun i => mf I p c n x1 x2 sp (CKt i).toInt ms0) (fun i h k => mf I p c n x1 x2 sp (CKt i).toInt (msk h k)) CKt c (4611686018427387904, s.1 38 8, s.1 38 9, s.1 38 10) 11 := by
  obtain ⟨s', e, h⟩ := qlp7 (fun f i (z : q_Mm) => l_X2_explain_9 f (46 + 3 * p) (nI i) z) 11 0 (q_wl s 38 7 4611686018427387904) (fun i z => Tg I z.1 ∧ (z.1 42 0 = x1 ∧ z.1 42 1 = x2 ∧ z.1 42 2 = sp) ∧ z9t z = ti t9 (fun i => mf I p c n x1 x2 sp (CKt i).toInt ms0) (fun i h k => mf I p c n x1 x2 sp (CKt i).toInt (msk h k)) CKt c (4611686018427387904, s.1 38 8, s.1 38 9, s.1 38 10) i) (fun z => z) (by omega) (by omega)
    ⟨hT, hG, rfl⟩
    (fun f z h => by
      show l_X2_explain_9 (f + 1) _ _ _ = _
      unfold l_X2_explain_9
      rw [if_pos (show (11 : Int32) ≤ nI 11 by decide)])
    (fun f i z hi h => by
      obtain ⟨a1, a2, a3⟩ := h
      have hk := CKt_in i hi
      have hT1 : Tg I (q_wi z 42 3 (CKt i)).1 := fun q j b1 b2 b3 b4 => by
        rw [r_wi, if_neg (by omega)]
        exact a1 q j b1 b2 b3 b4
      have hG1 : Gh (q_wi z 42 3 (CKt i)).1 x1 x2 sp (CKt i) := by
        refine ⟨?_, ?_, ?_, ?_⟩
        · rw [r_wi, if_neg (by omega)]; exact a2.1
        · rw [r_wi, if_neg (by omega)]; exact a2.2.1
        · rw [r_wi, if_neg (by omega)]; exact a2.2.2
        · rw [r_wi, if_pos ⟨rfl, rfl⟩]
      have hC1 := Ct_t hT1 hC
      obtain ⟨u, u1, u2, u3, u4⟩ := goTheWay9 hC1 hg hk hG1
      have hCu : Ct u.1 p c n := by rw [u2]; exact hC1
      have hTu : Tg I u.1 := by rw [u2]; exact hT1
      have hWu : Wy I p c x1 x2 sp (CKt i) u := ⟨hTu, by rw [u2]; exact hG1, fun t ht => by
        have := u4 t ht
        rw [wV_t hT1, wV_t hT1] at this
        exact this⟩
      have m0 := less0 (x1 := x1) (x2 := x2) (sp := sp) (ck := CKt i) hCu (fun t ht => by rw [u2]; exact u4 t ht)
      obtain ⟨w, w1, w2, w3, w4, w5, w6⟩ := considT9 (s := u) (v := mf u.1 p c n x1 x2 sp (CKt i).toInt ms0) (h := -6) (k := -6)
      have hWw := Wy_c hWu w3 w4 w5 w6
      obtain ⟨v, v1, v2⟩ := qlp7 (fun f j (y : q_Mm) => l_X2_explain_55 f (46 + 3 * p) (nI i) (nI j) y) 10 0 w (fun j y => Wy I p c x1 x2 sp (CKt i) y ∧ z9t y = th t9 (fun h k => mf I p c n x1 x2 sp (CKt i).toInt (msk h k)) (CKt i) c (z9t w) j) (fun y => y) (by omega) (by omega)
        ⟨hWw, rfl⟩
        (fun f y h => by
          show l_X2_explain_55 (f + 1) _ _ _ _ = _
          unfold l_X2_explain_55
          rw [if_pos (show (10 : Int32) ≤ nI 10 by decide)])
        (fun f j y hj h => by
          obtain ⟨y', y1, y2, y3⟩ := misses9 hC hg hk hj h.1
          refine ⟨y', ?_, y2, ?_⟩
          · show l_X2_explain_55 (f + 1) _ _ _ _ = l_X2_explain_55 f _ _ _ _
            conv => lhs; unfold l_X2_explain_55
            rw [if_neg (show ¬ (10 : Int32) ≤ nI j from nI_ge (b := 10) hj (by decide)), y1, Option.bind_some, nI_1]
          · rw [y3, h.2]
            rfl)
      have hzu : z9t u = z9t z := by
        unfold z9t
        rw [u2, u3, r_wi, if_neg (by omega), r_wi, if_neg (by omega), r_wi, if_neg (by omega)]
        rfl
      refine ⟨v, ?_, v2.1.1, ⟨v2.1.2.1.1, v2.1.2.1.2.1, v2.1.2.1.2.2.1⟩, ?_⟩
      · show l_X2_explain_9 (f + 1) _ _ _ = l_X2_explain_9 f _ _ _
        conv => lhs; unfold l_X2_explain_9
        rw [if_neg (show ¬ (11 : Int32) ≤ nI i from nI_ge (b := 11) hi (by decide)), if_pos (r_in hi (by decide)), r_cl (by omega)]
        show ((f_X2_goTheWay (46 + 3 * p) (q_wi z 42 3 (CKt i))).bind fun r2 => _) = _
        rw [u1, Option.bind_some, m0, Option.bind_some, w1, show l_X2_explain_55 7000 (46 + 3 * p) (nI i) 0 w = _ from v1, Option.bind_some, nI_1]
      · rw [v2.2, w2, hzu, a3, hWu.2.1.2.2.2, mf_t hTu]
        rfl)
  refine ⟨s', ?_, h.1, h.2.2⟩
  unfold f_X2_explain
  rw [show l_X2_explain_9 7000 (46 + 3 * p) 0 (q_wl s 38 7 4611686018427387904) = _ from e]
  rfl
/-- the reference: one candidate -/
theorem fin10 {s r : q_Mm} {v : Int64} {ck h k : Int32} (h1 : Tg s.1 r.1) (h2 : z10t r = z10t s) : ∃ s', (if r.2 58 48 < 0 then some (q_wi (q_wi (q_wi (q_wl r 58 48 v) 58 49 ck) 58 50 h) 58 51 k) else if r.2 58 48 ≤ v then some r else some (q_wi (q_wi (q_wi (q_wl r 58 48 v) 58 49 ck) 58 50 h) 58 51 k)) = some s' ∧ Tg s.1 s'.1 ∧ z10t s' = t10 v ck h k (z10t s) := by
  have w : Tg s.1 (q_wi (q_wi (q_wi (q_wl r 58 48 v) 58 49 ck) 58 50 h) 58 51 k).1 := fun q j b1 b2 b3 b4 => by
    rw [r_wi, if_neg (by omega), r_wi, if_neg (by omega), r_wi, if_neg (by omega)]
    exact h1 q j b1 b2 b3 b4
  unfold t10
  rw [← h2]
  by_cases c1 : r.2 58 48 < 0
  · rw [if_pos c1, if_pos (show (z10t r).1 < 0 from c1)]
    exact ⟨_, rfl, w, rfl⟩
  · rw [if_neg c1, if_neg (show ¬ (z10t r).1 < 0 from c1)]
    by_cases c2 : r.2 58 48 ≤ v
    · rw [if_pos c2, if_pos (show (z10t r).1 ≤ v from c2)]
      exact ⟨_, rfl, h1, rfl⟩
    · rw [if_neg c2, if_neg (show ¬ (z10t r).1 ≤ v from c2)]
      exact ⟨_, rfl, w, rfl⟩
theorem try0 {I : Nat → Nat → Int32} {p c n : Nat} {x1 x2 sp ck : Int32} {s : q_Mm} (hC : Ct I p c n) (hg : Go x1 x2 sp) (hk : -5 ≤ ck.toInt ∧ ck.toInt ≤ 5) (hT : Tg I s.1) : ∃ s', f_X10_tryFit x1 x2 sp ck (-6) (-6) s = some s' ∧ Tg I s'.1 ∧ z10t s' = t10 (mf I p c n x1 x2 sp ck.toInt ms0) ck (-6) (-6) (z10t s) := by
  obtain ⟨r, r1, r2, r3, r4⟩ := missNone10 s
  have hT1 : Tg s.1 r.1 := fun q j b1 _ _ _ => by rw [r3 q b1]
  have hC1 := Ct_t hT1 (Ct_t hT hC)
  obtain ⟨u, u1, u2, u3⟩ := misfit10 (ms := ms0) hC1 hg hk r4
  have hTu : Tg s.1 u.1 := by rw [u2]; exact hT1
  obtain ⟨s', e1, e2, e3⟩ := fin10 (v := mf r.1 p c n x1 x2 sp ck.toInt ms0) (ck := ck) (h := -6) (k := -6) hTu (by
    unfold z10t
    rw [u2, u3, r2, r3 58 (by decide)])
  refine ⟨s', ?_, Tg_tr hT e2, ?_⟩
  · unfold f_X10_tryFit
    rw [r1, Option.bind_some, if_pos (show (-6 : Int32) < 0 by decide), u1, Option.bind_some]
    exact e1
  · rw [e3, mf_t hT1, mf_t hT]
theorem try1 {I : Nat → Nat → Int32} {p c n hh kk : Nat} {x1 x2 sp ck : Int32} {s : q_Mm} (hC : Ct I p c n) (hg : Go x1 x2 sp) (hk : -5 ≤ ck.toInt ∧ ck.toInt ≤ 5) (hT : Tg I s.1) (hh' : hh < 10) : ∃ s', f_X10_tryFit x1 x2 sp ck (nI hh) (nI kk) s = some s' ∧ Tg I s'.1 ∧ z10t s' = t10 (mf I p c n x1 x2 sp ck.toInt (msk hh kk)) ck (nI hh) (nI kk) (z10t s) := by
  obtain ⟨r, r1, r2, r3, r4⟩ := missNone10 s
  have hT1 : Tg s.1 (q_wi r 62 hh ((1 : Int32) <<< (nI kk &&& 31))).1 := fun q j b1 _ _ _ => by rw [r_row b1, r3 q b1]
  have hC1 := Ct_t hT1 (Ct_t hT hC)
  obtain ⟨u, u1, u2, u3⟩ := misfit10 (ms := msk hh kk) hC1 hg hk (fun h' hh2 => by
    unfold msk
    rw [r_wi]
    by_cases e : h' = hh
    · rw [if_pos ⟨rfl, e⟩, if_pos e]
    · rw [if_neg (fun z => e z.2), if_neg e]
      exact r4 h' hh2)
  have hTu : Tg s.1 u.1 := by rw [u2]; exact hT1
  obtain ⟨s', e1, e2, e3⟩ := fin10 (v := mf (q_wi r 62 hh ((1 : Int32) <<< (nI kk &&& 31))).1 p c n x1 x2 sp ck.toInt (msk hh kk)) (ck := ck) (h := nI hh) (k := nI kk) hTu (by
    unfold z10t
    rw [u2, u3, r_row (by decide), r_wi2, r2, r3 58 (by decide)])
  refine ⟨s', ?_, Tg_tr hT e2, ?_⟩
  · unfold f_X10_tryFit
    rw [r1, Option.bind_some, if_neg (show ¬ nI hh < 0 by rw [r_lt, r_nI (by omega)]; show ¬ (hh : Int) < 0; omega), if_pos (r_in (show hh < 11 by omega) (by decide)), r_cl (by omega), u1, Option.bind_some]
    exact e1
  · rw [e3, mf_t hT1, mf_t hT]
theorem told93 {I : Nat → Nat → Int32} {p c n : Nat} {x1 x2 sp ck y4 y5 : Int32} {s : q_Mm} (hC : Ct I p c n) (hg : Go x1 x2 sp) (hk : -5 ≤ ck.toInt ∧ ck.toInt ≤ 5) (hT : Tg I s.1) : ∃ s', l_X10_told_93 7000 x1 x2 sp y4 y5 ck 0 s = some s' ∧ Tg I s'.1 ∧ z10t s' = th t10 (fun h k => mf I p c n x1 x2 sp ck.toInt (msk h k)) ck c (z10t s) 10 := by
  have hc : c ≤ 12 := hC.1.2.1
  obtain ⟨s', e, h⟩ := qlp7 (fun f h (z : q_Mm) => l_X10_told_93 f x1 x2 sp y4 y5 ck (nI h) z) 10 0 s (fun h z => Tg I z.1 ∧ z10t z = th t10 (fun h k => mf I p c n x1 x2 sp ck.toInt (msk h k)) ck c (z10t s) h) (fun z => z) (by omega) (by omega)
    ⟨hT, rfl⟩
    (fun f z h => by
      show l_X10_told_93 (f + 1) _ _ _ _ _ _ _ _ = _
      unfold l_X10_told_93
      rw [if_pos (show (10 : Int32) ≤ nI 10 by decide)])
    (fun f hh z hh' h => by
      obtain ⟨v, v1, v2⟩ := qlp7 (fun f k (y : q_Mm) => l_X10_told_103 f x1 x2 sp y4 y5 ck (nI hh) (nI k) y) c 0 z (fun k y => Tg I y.1 ∧ z10t y = tk t10 (fun k => mf I p c n x1 x2 sp ck.toInt (msk hh k)) ck (nI hh) (z10t z) k) (fun y => y) (by omega) (by omega)
        ⟨h.1, rfl⟩
        (fun f y h => by
          have hCy := Ct_t h.1 hC
          show l_X10_told_103 (f + 1) _ _ _ _ _ _ _ _ _ = _
          unfold l_X10_told_103
          rw [hCy.2.2.1, if_pos (r_in hCy.1.1 (by decide)), r_cl (by have := hCy.1.1; omega), hCy.1.2.2.2.1, if_pos (nI_le (Nat.le_refl _) (by omega))])
        (fun f k y hk' h => by
          have hCy := Ct_t h.1 hC
          obtain ⟨y', y1, y2, y3⟩ := try1 (kk := k) hC hg hk h.1 hh'
          refine ⟨y', ?_, y2, ?_⟩
          · show l_X10_told_103 (f + 1) _ _ _ _ _ _ _ _ _ = l_X10_told_103 f _ _ _ _ _ _ _ _ _
            conv => lhs; unfold l_X10_told_103
            rw [hCy.2.2.1, if_pos (r_in hCy.1.1 (by decide)), r_cl (by have := hCy.1.1; omega), hCy.1.2.2.2.1, if_neg (nI_ge hk' (by omega)), y1, Option.bind_some, nI_1]
          · rw [y3, h.2]
            rfl)
      refine ⟨v, ?_, v2.1, ?_⟩
      · show l_X10_told_93 (f + 1) _ _ _ _ _ _ _ _ = l_X10_told_93 f _ _ _ _ _ _ _ _
        conv => lhs; unfold l_X10_told_93
        rw [if_neg (show ¬ (10 : Int32) ≤ nI hh from nI_ge (b := 10) hh' (by decide)), show l_X10_told_103 7000 x1 x2 sp y4 y5 ck (nI hh) 0 z = _ from v1, Option.bind_some, nI_1]
      · rw [v2.2, h.2]
        rfl)
  exact ⟨s', e, h⟩
theorem told47 {I : Nat → Nat → Int32} {p c n : Nat} {x1 x2 sp y4 : Int32} {s : q_Mm} (hC : Ct I p c n) (hg : Go x1 x2 sp) (hT : Tg I s.1) : ∃ s', l_X10_told_47 7000 x1 x2 sp y4 0 s = some s' ∧ Tg I s'.1 ∧ z10t s' = ti t10 (fun i => mf I p c n x1 x2 sp (CKt i).toInt ms0) (fun i h k => mf I p c n x1 x2 sp (CKt i).toInt (msk h k)) CKt c (z10t s) 11 := by
  obtain ⟨s', e, h⟩ := qlp7 (fun f i (z : q_Mm) => l_X10_told_47 f x1 x2 sp y4 (nI i) z) 11 0 s (fun i z => Tg I z.1 ∧ z10t z = ti t10 (fun i => mf I p c n x1 x2 sp (CKt i).toInt ms0) (fun i h k => mf I p c n x1 x2 sp (CKt i).toInt (msk h k)) CKt c (z10t s) i) (fun z => z) (by omega) (by omega)
    ⟨hT, rfl⟩
    (fun f z h => by
      show l_X10_told_47 (f + 1) _ _ _ _ _ _ = _
      unfold l_X10_told_47
      rw [if_pos (show (11 : Int32) ≤ nI 11 by decide)])
    (fun f i z hi h => by
      have hk := CKt_in i hi
      have he := CKt_e i hi
      obtain ⟨u, u1, u2, u3⟩ := try0 hC hg hk h.1
      obtain ⟨v, v1, v2, v3⟩ := told93 (y4 := y4) (y5 := nI i) hC hg hk u2
      refine ⟨v, ?_, v2, ?_⟩
      · show l_X10_told_47 (f + 1) _ _ _ _ _ _ = l_X10_told_47 f _ _ _ _ _ _
        conv => lhs; unfold l_X10_told_47
        rw [if_neg (show ¬ (11 : Int32) ≤ nI i from nI_ge (b := 11) hi (by decide))]
        by_cases hq : q_rm (nI i) 2 = 0
        · rw [if_pos hq, he.1 hq, u1, Option.bind_some, v1, Option.bind_some, nI_1]
        · rw [if_neg hq, he.2 hq, u1, Option.bind_some, v1, Option.bind_some, nI_1]
      · rw [v3, u3, h.2]
        rfl)
  exact ⟨s', e, h⟩
theorem ok_told : q_OK_told Inv := by
  intro x1 x2 x3 x4 m hI
  have a9 : ∀ m, f_X9_within x4 0 3 m = 0 ↔ ¬ (0 ≤ x4.toInt ∧ x4.toInt ≤ 3) := fun m => r_within
  have a10 : ∀ m, f_X10_in x4.toInt64 0 3 m = 0 ↔ ¬ (0 ≤ x4.toInt ∧ x4.toInt ≤ 3) := fun m => r_inn
  obtain ⟨p, c, n, hC⟩ := Ct_of hI
  by_cases h1 : Go x1 x2 x3
  · by_cases h2 : 0 ≤ x4.toInt ∧ x4.toInt ≤ 3
    · by_cases h3 : n = 0
      · refine ⟨-1000000000003, m, m, ?_, ?_, hI⟩
        · unfold f_X9_told
          rw [if_neg (fun z => r_st9.mp z h1), if_neg (fun z => (a9 _).mp z h2), hC.2.2.2.2.2.2.1, h3, if_pos (show nI 0 = 0 by decide)]
        · unfold f_X10_told
          rw [if_neg (fun z => r_st10.mp z h1), if_neg (fun z => (a10 _).mp z h2), hC.2.2.2.2.2.2.2.1, h3, if_pos (show nI 0 = 0 by decide)]
      · have hn : n ≤ 12 := hC.2.2.2.2.2.1
        have h30 : ¬ nI n = 0 := fun z => by
          have := (nI_eq (a := n) (b := 0) (by omega) (by omega)).mp z
          omega
        have hTs : Tg m.1 (f_X7_set 42 x1 x2 x3 0 m).1 := fun q j b1 b2 b3 b4 => by
          unfold f_X7_set
          rw [r_row b2, r_row b2, r_row b2, r_row b2]
        obtain ⟨s1, e1, t1, z1⟩ := explain9 (x1 := x1) (x2 := x2) (sp := x3) hC h1 hTs ⟨rfl, rfl, rfl⟩
        have hC1 := Ct_t t1 hC
        obtain ⟨s2, e2, t2, z2⟩ := told47 (x1 := x1) (x2 := x2) (sp := x3) (y4 := x4) (s := q_wl s1 58 48 (-1)) hC h1 t1
        have hR := (Rt_i (u := (4611686018427387904, (f_X7_set 42 x1 x2 x3 0 m).1 38 8, (f_X7_set 42 x1 x2 x3 0 m).1 38 9, (f_X7_set 42 x1 x2 x3 0 m).1 38 10)) (v := z10t (q_wl s1 58 48 (-1))) (v0 := fun i => mf m.1 p c n x1 x2 x3 (CKt i).toInt ms0) (val := fun i h k => mf m.1 p c n x1 x2 x3 (CKt i).toInt (msk h k)) (CK := CKt) (c := c) (.inl ⟨rfl, (by decide : (-1 : Int64) < 0)⟩) (fun i => mf_in hC h1) (fun i h k _ => mf_in hC h1) 11).2 (by decide)
        rw [← z1, ← z2] at hR
        have k1 : s1.2 38 7 = s2.2 58 48 := congrArg (·.1) hR
        have k2 : s1.1 38 8 = s2.1 58 49 := congrArg (·.2.1) hR
        have k3 : s1.1 38 9 = s2.1 58 50 := congrArg (·.2.2.1) hR
        have k4 : s1.1 38 10 = s2.1 58 51 := congrArg (·.2.2.2) hR
        have u9 : f_X9_told x1 x2 x3 x4 m = some (if x4 = 0 then s1.2 38 7 else if x4 = 1 then (s1.1 38 8).toInt64 else if x4 = 2 then (s1.1 38 9).toInt64 else (s1.1 38 10).toInt64, s1) := by
          unfold f_X9_told
          rw [if_neg (fun z => r_st9.mp z h1), if_neg (fun z => (a9 _).mp z h2), hC.2.2.2.2.2.2.1, if_neg h30, show (f_X7_set 42 x1 x2 x3 0 m).1 0 1 = nI p from hC.2.1, if_pos (r_in hC.1.1 (by decide)), r_cl (by have := hC.1.1; omega), e1, Option.bind_some]
          split
          · rfl
          · split
            · rfl
            · split <;> rfl
        have u10 : f_X10_told x1 x2 x3 x4 s1 = some (if x4 = 0 then s1.2 38 7 else if x4 = 1 then (s1.1 38 8).toInt64 else if x4 = 2 then (s1.1 38 9).toInt64 else (s1.1 38 10).toInt64, s2) := by
          unfold f_X10_told
          rw [if_neg (fun z => r_st10.mp z h1), if_neg (fun z => (a10 _).mp z h2), hC1.2.2.2.2.2.2.2.1, if_neg h30, e2, Option.bind_some, k1, k2, k3, k4]
          split
          · rfl
          · split
            · rfl
            · split <;> rfl
        exact ⟨_, s1, s2, u9, u10, Inv_s (s_X10_told u10) (Inv_s (s_X9_told u9) hI)⟩
    · refine ⟨-1000000000002, m, m, ?_, ?_, hI⟩
      · unfold f_X9_told
        rw [if_neg (fun z => r_st9.mp z h1), if_pos ((a9 _).mpr h2)]
      · unfold f_X10_told
        rw [if_neg (fun z => r_st10.mp z h1), if_pos ((a10 _).mpr h2)]
  · refine ⟨-1000000000002, m, m, ?_, ?_, hI⟩
    · unfold f_X9_told
      rw [if_pos (r_st9.mpr h1)]
    · unfold f_X10_told
      rw [if_pos (r_st10.mpr h1)]
