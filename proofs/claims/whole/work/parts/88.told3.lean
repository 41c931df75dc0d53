/-! PURE: told: the class's ways and misfits -/
/-- the ghost's settings -/
def Gh (I : Nat → Nat → Int32) (x1 x2 sp ck : Int32) : Prop := I 42 0 = x1 ∧ I 42 1 = x2 ∧ I 42 2 = sp ∧ I 42 3 = ck
theorem goTheWay9 {s : q_Mm} {p c n : Nat} {x1 x2 sp ck : Int32} (hC : Ct s.1 p c n) (hg : Go x1 x2 sp) (hk : -5 ≤ ck.toInt ∧ ck.toInt ≤ 5) (hG : Gh s.1 x1 x2 sp ck) : ∃ s', f_X2_goTheWay (46 + 3 * p) s = some s' ∧ s'.1 = s.1 ∧ s'.2 38 7 = s.2 38 7 ∧ ∀ t, t ≤ 600 → s'.2 44 t = wV vX s.1 p c x1 sp ck.toInt ms0 t ∧ s'.2 45 t = wV vY s.1 p c x2 sp ck.toInt ms0 t := by
  obtain ⟨g0, g1, g2, g3⟩ := hG
  obtain ⟨s', e, h⟩ := qlp7 (fun f i (z : q_Mm) => l_X2_goTheWay_9 f (46 + 3 * p) (nI i) z) 601 0 (f_X7_begin 42 s) (fun t z => z.1 = s.1 ∧ z.2 38 7 = s.2 38 7 ∧ z.2 42 5 = wV vX s.1 p c x1 sp ck.toInt ms0 t ∧ z.2 42 6 = wV vY s.1 p c x2 sp ck.toInt ms0 t ∧ ∀ i, i < t → z.2 44 i = wV vX s.1 p c x1 sp ck.toInt ms0 i ∧ z.2 45 i = wV vY s.1 p c x2 sp ck.toInt ms0 i) (fun z => z) (by decide) (by decide)
    ⟨rfl, rfl, by
      show (s.1 42 0).toInt64 = x1.toInt64
      rw [g0], by
      show (s.1 42 1).toInt64 = x2.toInt64
      rw [g1], fun i hi => by omega⟩
    (fun f z h => by
      show l_X2_goTheWay_9 (f + 1) _ _ _ = _
      unfold l_X2_goTheWay_9
      rw [if_pos (show (600 : Int32) < nI 601 by decide)])
    (fun f t u ht h => by
      obtain ⟨e2, e5, e3, e4, e6⟩ := h
      have hPn := hC.1
      obtain ⟨hp, hc, k1, k2, hr, hs⟩ := hPn
      have hcc : crs (s.1 2 0).toInt (s.1 2 1).toInt (s.1 42 3).toInt (s.1 (46 + 3 * p + 1)) (s.1 (46 + 3 * p + 2)) (fun h => if h < 10 then s.1 (42 + 1) h else 0) c t = crs (s.1 58 16).toInt (s.1 58 17).toInt ck.toInt (fun j => s.1 59 (12 * p + j)) (fun j => s.1 60 (12 * p + j)) ms0 c t := by
        rw [hC.2.2.2.1.1, hC.2.2.2.1.2.1, g3]
        exact crs_congr (fun i hi => ⟨(hr i hi).1, (hr i hi).2.1⟩) (fun h _ => by
          unfold ms0
          by_cases hh : h < 10
          · rw [if_pos hh]; exact hC.2.2.2.2.1 h hh
          · rw [if_neg hh]) (by omega) hk.2
      have hin : -4 ≤ (crs (s.1 58 16).toInt (s.1 58 17).toInt ck.toInt (fun j => s.1 59 (12 * p + j)) (fun j => s.1 60 (12 * p + j)) ms0 c t).toInt ∧ (crs (s.1 58 16).toInt (s.1 58 17).toInt ck.toInt (fun j => s.1 59 (12 * p + j)) (fun j => s.1 60 (12 * p + j)) ms0 c t).toInt ≤ 4 := crs_in (fun i hi => ⟨(hr i hi).2.2.2.2.1, (hr i hi).2.2.2.2.2⟩)
      have hx := hvX hin
      have hy := vY_in hin
      have hsp : -1000 ≤ sp.toInt ∧ sp.toInt ≤ 1000 := by have := hg.2.2; omega
      have st := move9 (m := q_wl (q_wl u 44 t (u.2 42 5)) 45 t ((q_wl u 44 t (u.2 42 5)).2 42 6)) (a := 42) (b := 46 + 3 * p) (t := t) (cc := crs (s.1 58 16).toInt (s.1 58 17).toInt ck.toInt (fun j => s.1 59 (12 * p + j)) (fun j => s.1 60 (12 * p + j)) ms0 c t) hc (by rw [r_wl1, r_wl1, e2]; exact k1) (fun i j hij hj => by rw [r_wl1, r_wl1, e2, (hr i (by omega)).1, (hr j hj).1]; exact hs i j hij hj) (fun i hi => by rw [r_wl1, r_wl1, e2, (hr i hi).2.1]; exact (hr i hi).2.2.2.2) (by rw [r_wl1, r_wl1, e2, g3]; exact hk) (by omega) (by rw [r_wl1, r_wl1, e2]; exact hcc)
      rw [r_wl1, r_wl1, e2, g2, mul64 hsp hx, mul64 hsp hy] at st
      have hcr : ∀ v x0, wV v s.1 p c x0 sp ck.toInt ms0 (t + 1) = wV v s.1 p c x0 sp ck.toInt ms0 t + (v (crs (s.1 58 16).toInt (s.1 58 17).toInt ck.toInt (fun j => s.1 59 (12 * p + j)) (fun j => s.1 60 (12 * p + j)) ms0 c t)).toInt64 * sp.toInt64 := fun v x0 => rfl
      refine ⟨q_wl (q_wl (q_wl (q_wl u 44 t (u.2 42 5)) 45 t (u.2 42 6)) 42 5 (wV vX s.1 p c x1 sp ck.toInt ms0 (t + 1))) 42 6 (wV vY s.1 p c x2 sp ck.toInt ms0 (t + 1)), ?_, ?_⟩
      · show l_X2_goTheWay_9 (f + 1) _ _ _ = l_X2_goTheWay_9 f _ _ _
        conv => lhs; unfold l_X2_goTheWay_9
        rw [if_neg (show ¬ (600 : Int32) < nI t by rw [r_lt, r_nI (by omega)]; show ¬ (600 : Int) < _; omega), if_pos (r_in ht (by decide)), if_pos (r_in ht (by decide)), r_cl (by omega), st, Option.bind_some, nI_1, hcr, hcr, ← e3, ← e4]
        rfl
      · refine ⟨e2, ?_, ?_, ?_, fun i hi => ?_⟩
        · rw [r_wl2, if_neg (by omega), r_wl2, if_neg (by omega), r_wl2, if_neg (by omega), r_wl2, if_neg (by omega), e5]
        · rw [r_wl2, if_neg (by omega), r_wl2, if_pos ⟨rfl, rfl⟩]
        · rw [r_wl2, if_pos ⟨rfl, rfl⟩]
        · refine ⟨?_, ?_⟩
          · rw [r_wl2, if_neg (by omega), r_wl2, if_neg (by omega), r_wl2, if_neg (by omega), r_wl2]
            by_cases hit : i = t
            · subst hit
              rw [if_pos ⟨rfl, rfl⟩]
              exact e3
            · rw [if_neg (fun z => hit z.2)]
              exact (e6 i (by omega)).1
          · rw [r_wl2, if_neg (by omega), r_wl2, if_neg (by omega), r_wl2]
            by_cases hit : i = t
            · subst hit
              rw [if_pos ⟨rfl, rfl⟩]
              exact e4
            · rw [if_neg (fun z => hit z.2), r_wl2, if_neg (by omega)]
              exact (e6 i (by omega)).2)
  obtain ⟨e2, e5, e3, e4, e6⟩ := h
  refine ⟨s', ?_, e2, e5, fun t ht => e6 t (by omega)⟩
  unfold f_X2_goTheWay
  rw [show l_X2_goTheWay_9 7000 (46 + 3 * p) 0 (f_X7_begin 42 s) = _ from e]
  rfl
theorem clear9 {m : q_Mm} {x y : Int32} (hx : -100000 ≤ x.toInt ∧ x.toInt ≤ 100000) (hy : -100000 ≤ y.toInt ∧ y.toInt ≤ 100000) (hf : 0 ≤ (m.1 2 0).toInt ∧ (m.1 2 0).toInt ≤ (m.1 2 1).toInt ∧ (m.1 2 1).toInt ≤ 600) : (f_X1_clearMinutes x y m).toInt64 = Int64.ofInt (clr (m.1 2 0).toInt (m.1 2 1).toInt x.toInt y.toInt) := by
  rw [to64]
  unfold f_X1_clearMinutes clr
  have z : (0 : Int32).toInt = 0 := rfl
  have a1 : (y - x).toInt = y.toInt - x.toInt := sub_i (by omega) (by omega)
  have a2 : (q_max 0 (y - x)).toInt = max 0 (y.toInt - x.toInt) := by rw [q_max_i, a1, z]
  have a3 : (q_min y (m.1 2 1) - q_max x (m.1 2 0)).toInt = min y.toInt (m.1 2 1).toInt - max x.toInt (m.1 2 0).toInt := by
    rw [sub_i, q_min_i, q_max_i] <;> rw [q_min_i, q_max_i] <;> omega
  have a4 : (q_max 0 (q_min y (m.1 2 1) - q_max x (m.1 2 0))).toInt = max 0 (min y.toInt (m.1 2 1).toInt - max x.toInt (m.1 2 0).toInt) := by rw [q_max_i, a3, z]
  rw [sub_i (by rw [a2, a4]; omega) (by rw [a2, a4]; omega), a2, a4]
theorem misfitLess9 {s : q_Mm} {p c n : Nat} {x1 x2 sp ck y2 y3 y4 y5 : Int32} {ms : Nat → Int32} (hC : Ct s.1 p c n) (hW : ∀ t, t ≤ 600 → s.2 44 t = wV vX s.1 p c x1 sp ck.toInt ms0 t ∧ s.2 45 t = wV vY s.1 p c x2 sp ck.toInt ms0 t)
    (hM : ∀ t : Nat, t ≤ 600 → wV vX s.1 p c x1 sp ck.toInt ms t = wV vX s.1 p c x1 sp ck.toInt ms0 t + (f_X1_clearMinutes y2 (q_min y3 (nI t)) s).toInt64 * y4.toInt64 ∧ wV vY s.1 p c x2 sp ck.toInt ms t = wV vY s.1 p c x2 sp ck.toInt ms0 t + (f_X1_clearMinutes y2 (q_min y3 (nI t)) s).toInt64 * y5.toInt64) : f_X2_misfitLess y2 y3 y4 y5 s = some (mf s.1 p c n x1 x2 sp ck.toInt ms) := by
  have hn : n ≤ 12 := hC.2.2.2.2.2.1
  have l := qlp7g (fun f i (z : Int64) => l_X2_misfitLess_6 f y2 y3 y4 y5 z (nI i) s) n 0 (fun i => sLg (fun i => tF s.1 p c x1 x2 sp ck.toInt ms i (s.1 86 i).toNatClampNeg) i) (fun z => z) (by omega) (by omega)
    (fun f => by
      show l_X2_misfitLess_6 (f + 1) _ _ _ _ _ _ _ = _
      unfold l_X2_misfitLess_6
      rw [hC.2.2.2.2.2.2.1, if_pos (nI_le (Nat.le_refl _) (by omega))])
    (fun f i _ hi => by
      show l_X2_misfitLess_6 (f + 1) _ _ _ _ _ _ _ = l_X2_misfitLess_6 f _ _ _ _ _ _ _
      obtain ⟨b1, b2, b3, _, _, a1, a2, a3, a4⟩ := hC.2.2.2.2.2.2.2.2 i hi
      have htm := tm_in hC hi
      conv => lhs; unfold l_X2_misfitLess_6
      have hq : q_in (s.1 86 i) 601 = true := by rw [htm.2]; exact r_in (by omega) (by decide)
      rw [hC.2.2.2.2.2.2.1, if_neg (nI_ge hi (by omega)), r_cl (show i < 2 ^ 31 by omega), b1, b2, b3, if_pos (r_in (show i < 12 by omega) (by decide)), if_pos hq, if_pos (r_in (show i < 12 by omega) (by decide)), if_pos hq, if_pos (r_in (show i < 12 by omega) (by decide)), nI_1, sLg_s, (hW _ htm.1).1, (hW _ htm.1).2, Int64.add_assoc]
      unfold tF
      rw [(hM _ htm.1).1, (hM _ htm.1).2, ← htm.2])
  unfold f_X2_misfitLess
  rw [show l_X2_misfitLess_6 7000 y2 y3 y4 y5 0 0 s = _ from l]
  rfl
theorem less0 {s : q_Mm} {p c n : Nat} {x1 x2 sp ck : Int32} (hC : Ct s.1 p c n) (hW : ∀ t, t ≤ 600 → s.2 44 t = wV vX s.1 p c x1 sp ck.toInt ms0 t ∧ s.2 45 t = wV vY s.1 p c x2 sp ck.toInt ms0 t) : f_X2_misfitLess 0 0 0 0 s = some (mf s.1 p c n x1 x2 sp ck.toInt ms0) :=
  misfitLess9 hC hW (fun t _ => by
    rw [show (0 : Int32).toInt64 = 0 from rfl, Int64.mul_zero, Int64.add_zero, Int64.add_zero]
    exact ⟨rfl, rfl⟩)
theorem dif64 {sp a b : Int32} (hs : 1 ≤ sp.toInt ∧ sp.toInt ≤ 20) (ha : -1000 ≤ a.toInt ∧ a.toInt ≤ 1000) (hb : -1000 ≤ b.toInt ∧ b.toInt ≤ 1000) : (sp * (a - b)).toInt64 = (a.toInt64 - b.toInt64) * sp.toInt64 := by
  have h1 : (a - b).toInt = a.toInt - b.toInt := sub_i (by omega) (by omega)
  have h2 := absmul (x := sp.toInt) (y := a.toInt - b.toInt) (a := 20) (b := 2000) (by omega) (by omega)
  have h3 : (a.toInt64 - b.toInt64).toInt = a.toInt - b.toInt := by rw [subL (by rw [r_64, r_64]; omega), r_64, r_64]
  apply Int64.toInt_inj.mp
  rw [r_64, Int32.toInt_mul, h1, Int.bmod_eq_of_le (by omega) (by omega), mulL (a := 2000) (b := 20) (by rw [h3]; omega) (by rw [r_64]; omega) (by decide), h3, r_64, Int.mul_comm]
