/-! PURE: told: the best explanation -/
abbrev Zt : Type := Int64 × Int32 × Int32 × Int32
def t9 (v : Int64) (ck h k : Int32) (z : Zt) : Zt := if z.1 ≤ v then z else (v, ck, h, k)
def t10 (v : Int64) (ck h k : Int32) (z : Zt) : Zt := if z.1 < 0 then (v, ck, h, k) else if z.1 ≤ v then z else (v, ck, h, k)
def tk (st : Int64 → Int32 → Int32 → Int32 → Zt → Zt) (val : Nat → Int64) (ck h : Int32) (z : Zt) : Nat → Zt
  | 0 => z
  | k + 1 => st (val k) ck h (nI k) (tk st val ck h z k)
def th (st : Int64 → Int32 → Int32 → Int32 → Zt → Zt) (val : Nat → Nat → Int64) (ck : Int32) (c : Nat) (z : Zt) : Nat → Zt
  | 0 => z
  | h + 1 => tk st (val h) ck (nI h) (th st val ck c z h) c
def ti (st : Int64 → Int32 → Int32 → Int32 → Zt → Zt) (v0 : Nat → Int64) (val : Nat → Nat → Nat → Int64) (CK : Nat → Int32) (c : Nat) (z : Zt) : Nat → Zt
  | 0 => z
  | i + 1 => th st (val i) (CK i) c (st (v0 i) (CK i) (-6) (-6) (ti st v0 val CK c z i)) 10
def Rt (u v : Zt) : Prop := (u.1 = 4611686018427387904 ∧ v.1 < 0) ∨ (u = v ∧ 0 ≤ u.1.toInt)
theorem Rt_s {u v : Zt} {a : Int64} {ck h k : Int32} (ha : 0 ≤ a.toInt ∧ a.toInt < 4611686018427387904) (hR : Rt u v) : t9 a ck h k u = t10 a ck h k v ∧ 0 ≤ (t9 a ck h k u).1.toInt := by
  unfold t9 t10
  rcases hR with ⟨e1, e2⟩ | ⟨rfl, e2⟩
  · rw [if_pos e2, if_neg (show ¬ u.1 ≤ a by rw [e1, r_leL, MAXi]; omega)]
    exact ⟨rfl, ha.1⟩
  · rw [if_neg (show ¬ u.1 < 0 by rw [r_ltL, z0i]; omega)]
    refine ⟨rfl, ?_⟩
    split
    · exact e2
    · exact ha.1
theorem Rt_k {u : Zt} {val : Nat → Int64} {ck h : Int32} (hu : 0 ≤ u.1.toInt) : ∀ c, (∀ k, k < c → 0 ≤ (val k).toInt ∧ (val k).toInt < 4611686018427387904) → tk t9 val ck h u c = tk t10 val ck h u c ∧ 0 ≤ (tk t9 val ck h u c).1.toInt := by
  intro c
  induction c with
  | zero => intro _; exact ⟨rfl, hu⟩
  | succ c ih =>
    intro hv
    have i1 := ih (fun k hk => hv k (by omega))
    exact Rt_s (hv c (by omega)) (.inr i1)
theorem Rt_h {u : Zt} {val : Nat → Nat → Int64} {ck : Int32} {c : Nat} (hu : 0 ≤ u.1.toInt) (hv : ∀ h k, k < c → 0 ≤ (val h k).toInt ∧ (val h k).toInt < 4611686018427387904) : ∀ n, th t9 val ck c u n = th t10 val ck c u n ∧ 0 ≤ (th t9 val ck c u n).1.toInt := by
  intro n
  induction n with
  | zero => exact ⟨rfl, hu⟩
  | succ n ih =>
    have e := Rt_k (ck := ck) (h := nI n) ih.2 c (hv n)
    refine ⟨?_, e.2⟩
    show tk t9 (val n) ck (nI n) (th t9 val ck c u n) c = tk t10 (val n) ck (nI n) (th t10 val ck c u n) c
    rw [e.1, ih.1]
theorem Rt_i {u v : Zt} {v0 : Nat → Int64} {val : Nat → Nat → Nat → Int64} {CK : Nat → Int32} {c : Nat} (hR : Rt u v) (h0 : ∀ i, 0 ≤ (v0 i).toInt ∧ (v0 i).toInt < 4611686018427387904) (hv : ∀ i h k, k < c → 0 ≤ (val i h k).toInt ∧ (val i h k).toInt < 4611686018427387904) : ∀ n, Rt (ti t9 v0 val CK c u n) (ti t10 v0 val CK c v n) ∧ (0 < n → ti t9 v0 val CK c u n = ti t10 v0 val CK c v n) := by
  intro n
  induction n with
  | zero => exact ⟨hR, fun h => by omega⟩
  | succ n ih =>
    have a := Rt_s (ck := CK n) (h := -6) (k := -6) (h0 n) ih.1
    have b := Rt_h (ck := CK n) a.2 (hv n) 10
    have e : ti t9 v0 val CK c u (n + 1) = ti t10 v0 val CK c v (n + 1) := by
      show th t9 (val n) (CK n) c (t9 (v0 n) (CK n) (-6) (-6) (ti t9 v0 val CK c u n)) 10 = th t10 (val n) (CK n) c (t10 (v0 n) (CK n) (-6) (-6) (ti t10 v0 val CK c v n)) 10
      rw [b.1, a.1]
    exact ⟨.inr ⟨e, b.2⟩, fun _ => e⟩
def z9t (m : q_Mm) : Zt := (m.2 38 7, m.1 38 8, m.1 38 9, m.1 38 10)
def z10t (m : q_Mm) : Zt := (m.2 58 48, m.1 58 49, m.1 58 50, m.1 58 51)
def CKt (i : Nat) : Int32 := q_sv 4 i
theorem CKt_in : ∀ i, i < 11 → -5 ≤ (CKt i).toInt ∧ (CKt i).toInt ≤ 5 := by decide
theorem CKt_e : ∀ i, i < 11 → (q_rm (nI i) 2 = 0 → nI i / 2 = CKt i) ∧ (¬ q_rm (nI i) 2 = 0 → (-(nI i + 1)) / 2 = CKt i) := by decide
/-- the class: one candidate -/
theorem considT9 {s : q_Mm} {v : Int64} {h k : Int32} : ∃ s', f_X2_consider v h k s = s' ∧ z9t s' = t9 v (s.1 42 3) h k (z9t s) ∧ Tg s.1 s'.1 ∧ s'.1 42 = s.1 42 ∧ s'.2 44 = s.2 44 ∧ s'.2 45 = s.2 45 := by
  unfold f_X2_consider t9
  by_cases hc : s.2 38 7 ≤ v
  · rw [if_pos hc]
    refine ⟨s, rfl, ?_, fun _ _ _ _ _ _ => rfl, rfl, rfl, rfl⟩
    rw [if_pos (show (z9t s).1 ≤ v from hc)]
  · rw [if_neg hc]
    refine ⟨_, rfl, ?_, fun q j _ _ _ h4 => ?_, ?_, ?_, ?_⟩
    · rw [if_neg (show ¬ (z9t s).1 ≤ v from hc)]
      rfl
    · rw [r_wi, if_neg (by omega), r_wi, if_neg (by omega), r_wi, if_neg (by omega)]
      rfl
    · rw [r_row (by decide), r_row (by decide), r_row (by decide)]
      rfl
    · rfl
    · rfl
/-- what stays while the class tries misses by one clock -/
def Wy (I : Nat → Nat → Int32) (p c : Nat) (x1 x2 sp ck : Int32) (s : q_Mm) : Prop := Tg I s.1 ∧ Gh s.1 x1 x2 sp ck ∧ ∀ t, t ≤ 600 → s.2 44 t = wV vX I p c x1 sp ck.toInt ms0 t ∧ s.2 45 t = wV vY I p c x2 sp ck.toInt ms0 t
theorem wV_t {v : Int32 → Int32} {I I' : Nat → Nat → Int32} (h : Tg I I') {p c t : Nat} {x0 sp : Int32} {ck : Int} {ms : Nat → Int32} : wV v I' p c x0 sp ck ms t = wV v I p c x0 sp ck ms t := by
  unfold wV
  rw [Tg_row h 59 (by decide) (by decide) (by decide) (by decide), Tg_row h 60 (by decide) (by decide) (by decide) (by decide), h 58 16 (by decide) (by decide) (by omega) (by omega), h 58 17 (by decide) (by decide) (by omega) (by omega)]
theorem Wy_c {I : Nat → Nat → Int32} {p c : Nat} {x1 x2 sp ck : Int32} {s s' : q_Mm} (h : Wy I p c x1 x2 sp ck s) (a : Tg s.1 s'.1) (b : s'.1 42 = s.1 42) (d : s'.2 44 = s.2 44) (e : s'.2 45 = s.2 45) : Wy I p c x1 x2 sp ck s' := by
  refine ⟨Tg_tr h.1 a, ?_, ?_⟩
  · unfold Gh
    rw [b]
    exact h.2.1
  · rw [d, e]
    exact h.2.2
theorem misses9 {I : Nat → Nat → Int32} {p c n hh : Nat} {x1 x2 sp ck : Int32} {s : q_Mm} (hC : Ct I p c n) (hg : Go x1 x2 sp) (hk : -5 ≤ ck.toInt ∧ ck.toInt ≤ 5) (hh' : hh < 10) (hW : Wy I p c x1 x2 sp ck s) : ∃ s', f_X2_considerMisses (46 + 3 * p) (nI hh) s = some s' ∧ Wy I p c x1 x2 sp ck s' ∧ z9t s' = tk t9 (fun k => mf I p c n x1 x2 sp ck.toInt (msk hh k)) ck (nI hh) (z9t s) c := by
  have hc : c ≤ 12 := hC.1.2.1
  have g3 : s.1 42 3 = ck := hW.2.1.2.2.2
  have ks : (60 * nI hh - ck).toInt = 60 * (hh : Int) - ck.toInt := by
    have k0 : (60 * nI hh).toInt = 60 * (hh : Int) := by
      rw [Int32.toInt_mul, r_nI (by omega), show (60 : Int32).toInt = 60 from rfl, Int.bmod_eq_of_le (by omega) (by omega)]
    rw [sub_i, k0] <;> rw [k0] <;> omega
  obtain ⟨s', e, h⟩ := qlp7 (fun f i (z : q_Mm) => l_X2_considerMisses_17 f (46 + 3 * p) (nI hh) (60 * nI hh - ck) (nI i) z) c 0 s (fun i z => Wy I p c x1 x2 sp ck z ∧ z9t z = tk t9 (fun k => mf I p c n x1 x2 sp ck.toInt (msk hh k)) ck (nI hh) (z9t s) i) (fun z => z) (by omega) (by omega)
    ⟨hW, rfl⟩
    (fun f z h => by
      have hCz := Ct_t h.1.1 hC
      show l_X2_considerMisses_17 (f + 1) _ _ _ _ _ = _
      unfold l_X2_considerMisses_17
      rw [hCz.1.2.2.1, if_pos (nI_le (Nat.le_refl _) (by omega))])
    (fun f i z hi h => by
      obtain ⟨hWz, hz⟩ := h
      have hCz := Ct_t hWz.1 hC
      have hP := hCz.1
      obtain ⟨hp, _, k1, k2, hr, hs⟩ := hP
      obtain ⟨r, er, hrr⟩ := legEnd9 hCz.1 hi
      obtain ⟨r1, r2, r3, r4, r5, r6⟩ := hr i hi
      have hle : (z.1 59 (12 * p + i)).toInt < r.toInt ∧ r.toInt ≤ 60 := by
        rw [hrr]
        unfold legE
        split
        · have := hs i (i + 1) (by omega) (by omega)
          have := hr (i + 1) (by omega)
          dsimp only
          omega
        · omega
      have hkept : f_X5_courseAhead (46 + 3 * p) (nI i) z = some (if i = 0 then 0 else z.1 60 (12 * p + (i - 1))) := by
        unfold f_X5_courseAhead
        by_cases h0 : i = 0
        · subst h0
          rw [if_pos (show nI 0 ≤ 0 by decide), if_pos rfl]
        · rw [if_neg (fun w => h0 ((nI_le0 (by omega)).mp w)), nI_m1 (by omega), if_pos (r_in (show i - 1 < 12 by omega) (by decide)), r_cl (by omega), if_neg h0, (hr (i - 1) (by omega)).2.1]
      have hkin : -4 ≤ (if i = 0 then 0 else z.1 60 (12 * p + (i - 1)) : Int32).toInt ∧ (if i = 0 then 0 else z.1 60 (12 * p + (i - 1)) : Int32).toInt ≤ 4 := by
        by_cases h0 : i = 0
        · rw [if_pos h0]; decide
        · rw [if_neg h0]; exact (hr (i - 1) (by omega)).2.2.2.2
      have f0 := hCz.2.2.2.1
      have ge : z.1 42 2 = sp := hWz.2.1.2.2.1
      have j1 : (60 * nI hh - ck + z.1 59 (12 * p + i)).toInt = 60 * (hh : Int) - ck.toInt + (z.1 59 (12 * p + i)).toInt := by
        rw [Int32.toInt_add, ks, Int.bmod_eq_of_le (by omega) (by omega)]
      have j2 : (60 * nI hh - ck + r).toInt = 60 * (hh : Int) - ck.toInt + r.toInt := by
        rw [Int32.toInt_add, ks, Int.bmod_eq_of_le (by omega) (by omega)]
      have j3 : (q_max 0 (60 * nI hh - ck + z.1 59 (12 * p + i))).toInt = max 0 (60 * (hh : Int) - ck.toInt + (z.1 59 (12 * p + i)).toInt) := by
        rw [q_max_i, j1]; rfl
      have hmis : f_X2_misfitLess (q_max 0 (60 * nI hh - ck + z.1 59 (12 * p + i))) (60 * nI hh - ck + r) (sp * (vX (if i = 0 then 0 else z.1 60 (12 * p + (i - 1))) - vX (z.1 60 (12 * p + i)))) (sp * (vY (if i = 0 then 0 else z.1 60 (12 * p + (i - 1))) - vY (z.1 60 (12 * p + i)))) z = some (mf z.1 p c n x1 x2 sp ck.toInt (msk hh i)) := by
        refine misfitLess9 (x1 := x1) (x2 := x2) (sp := sp) (ck := ck) (ms := msk hh i) hCz (fun t ht => by rw [wV_t hWz.1, wV_t hWz.1]; exact hWz.2.2 t ht) (fun t ht => ?_)
        have cl : (f_X1_clearMinutes (q_max 0 (60 * nI hh - ck + z.1 59 (12 * p + i))) (q_min (60 * nI hh - ck + r) (nI t)) z).toInt64 = Int64.ofInt (clr (z.1 58 16).toInt (z.1 58 17).toInt (max 0 (60 * (hh : Int) - ck.toInt + (z.1 59 (12 * p + i)).toInt)) (min (60 * (hh : Int) - ck.toInt + legE (fun j => z.1 59 (12 * p + j)) c i) (t : Int))) := by
          rw [clear9 (by rw [j3]; omega) (by rw [q_min_i, j2, r_nI (by omega)]; omega) f0.2.2, j3, q_min_i, j2, r_nI (by omega), f0.1, f0.2.1, hrr]
        rw [cl, dif64 hg.2.2 (hvX hkin) (hvX ⟨r5, r6⟩), dif64 hg.2.2 (vY_in hkin) (vY_in ⟨r5, r6⟩)]
        have hf : (z.1 58 16).toInt ≤ (z.1 58 17).toInt := by rw [← f0.1, ← f0.2.1]; exact f0.2.2.2.1
        exact ⟨walk_miss (v := vX) hc hi hf (fun i hi => ⟨(hr i hi).2.2.1, (hr i hi).2.2.2.1⟩) hs t, walk_miss (v := vY) hc hi hf (fun i hi => ⟨(hr i hi).2.2.1, (hr i hi).2.2.2.1⟩) hs t⟩
      obtain ⟨z', c1, c2, c3, c4, c5, c6⟩ := considT9 (s := z) (v := mf z.1 p c n x1 x2 sp ck.toInt (msk hh i)) (h := nI hh) (k := nI i)
      refine ⟨z', ?_, Wy_c hWz c3 c4 c5 c6, ?_⟩
      · show l_X2_considerMisses_17 (f + 1) _ _ _ _ _ = l_X2_considerMisses_17 f _ _ _ _ _
        conv => lhs; unfold l_X2_considerMisses_17
        rw [k1, if_neg (nI_ge hi (by omega)), hkept, Option.bind_some, paceX z hkin, Option.bind_some, if_pos (r_in (show i < 12 by omega) (by decide)), r_cl (show i < 2 ^ 31 by omega), r2, paceX z ⟨r5, r6⟩, Option.bind_some, paceY z hkin, Option.bind_some, if_pos (r_in (show i < 12 by omega) (by decide)), paceY z ⟨r5, r6⟩, Option.bind_some, if_pos (r_in (show i < 12 by omega) (by decide)), er, Option.bind_some, r1, ge, hmis, Option.bind_some, c1, nI_1]
      · rw [c2, hz, mf_t hWz.1, hWz.2.1.2.2.2]
        rfl)
  refine ⟨s', ?_, h⟩
  unfold f_X2_considerMisses
  rw [g3, show l_X2_considerMisses_17 7000 (46 + 3 * p) (nI hh) (60 * nI hh - ck) 0 s = _ from e]
  rfl
