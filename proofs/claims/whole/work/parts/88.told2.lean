/-! PURE: told: misfits -/
def Tg (I I' : Nat → Nat → Int32) : Prop := ∀ q j, ¬ q = 62 → ¬ q = 42 → ¬ (q = 58 ∧ 49 ≤ j) → ¬ (q = 38 ∧ 8 ≤ j) → I' q j = I q j
def Ct (I : Nat → Nat → Int32) (p c n : Nat) : Prop := Pn I p c ∧ I 0 1 = nI p ∧ I 58 3 = nI p ∧ (I 2 0 = I 58 16 ∧ I 2 1 = I 58 17 ∧ 0 ≤ (I 2 0).toInt ∧ (I 2 0).toInt ≤ (I 2 1).toInt ∧ (I 2 1).toInt ≤ 600) ∧ (∀ h, h < 10 → I 43 h = 0) ∧ n ≤ 12 ∧ I 38 3 = nI n ∧ I 58 47 = nI n ∧ ∀ i, i < n → I 39 i = I 86 i ∧ I 40 i = I 87 i ∧ I 41 i = I 88 i ∧
  0 ≤ (I 86 i).toInt ∧ (I 86 i).toInt ≤ 600 ∧ -10000000 ≤ (I 87 i).toInt ∧ (I 87 i).toInt ≤ 10000000 ∧ -10000000 ≤ (I 88 i).toInt ∧ (I 88 i).toInt ≤ 10000000
theorem Ct_of {m : q_Mm} (hI : Inv m) : ∃ p c n, Ct m.1 p c n := by
  obtain ⟨p, hp, a1, a2⟩ := hI.2.1
  obtain ⟨c, hP⟩ := Pn_of hI hp
  obtain ⟨n, hn, b1, b2, b3⟩ := hI.2.2.2.2.2.2.2.2.1
  exact ⟨p, c, n, hP, a1, a2, hI.2.2.1, hI.2.2.2.2.1, hn, b1, b2, b3⟩
theorem Tg_row {I I' : Nat → Nat → Int32} (h : Tg I I') (q : Nat) (h1 : ¬ q = 62) (h2 : ¬ q = 42) (h3 : ¬ q = 58) (h4 : ¬ q = 38) : I' q = I q := funext fun j => h q j h1 h2 (fun z => h3 z.1) (fun z => h4 z.1)
theorem Ct_t {I I' : Nat → Nat → Int32} {p c n : Nat} (h : Tg I I') (hC : Ct I p c n) : Ct I' p c n := by
  have hp : p < 4 := hC.1.1
  unfold Ct Pn
  rw [Tg_row h (46 + 3 * p) (by omega) (by omega) (by omega) (by omega), Tg_row h (46 + 3 * p + 1) (by omega) (by omega) (by omega) (by omega), Tg_row h (46 + 3 * p + 2) (by omega) (by omega) (by omega) (by omega), Tg_row h 61 (by decide) (by decide) (by decide) (by decide), Tg_row h 59 (by decide) (by decide) (by decide) (by decide), Tg_row h 60 (by decide) (by decide) (by decide) (by decide), Tg_row h 0 (by decide) (by decide) (by decide) (by decide), Tg_row h 2 (by decide) (by decide) (by decide) (by decide), Tg_row h 43 (by decide) (by decide) (by decide) (by decide), Tg_row h 39 (by decide) (by decide) (by decide) (by decide), Tg_row h 40 (by decide) (by decide) (by decide) (by decide), Tg_row h 41 (by decide) (by decide) (by decide) (by decide), Tg_row h 86 (by decide) (by decide) (by decide) (by decide), Tg_row h 87 (by decide) (by decide) (by decide) (by decide), Tg_row h 88 (by decide) (by decide) (by decide) (by decide), h 58 3 (by decide) (by decide) (by omega) (by omega), h 58 16 (by decide) (by decide) (by omega) (by omega), h 58 17 (by decide) (by decide) (by omega) (by omega), h 58 47 (by decide) (by decide) (by omega) (by omega), h 38 3 (by decide) (by decide) (by omega) (by omega)]
  exact hC
theorem Tg_tr {I I' I'' : Nat → Nat → Int32} (h : Tg I I') (h' : Tg I' I'') : Tg I I'' := fun q j a b c d => (h' q j a b c d).trans (h q j a b c d)
def wV (v : Int32 → Int32) (I : Nat → Nat → Int32) (p c : Nat) (x0 sp : Int32) (ck : Int) (ms : Nat → Int32) (t : Nat) : Int64 := wk v (crs (I 58 16).toInt (I 58 17).toInt ck (fun j => I 59 (12 * p + j)) (fun j => I 60 (12 * p + j)) ms c) x0.toInt64 sp t
def tF (I : Nat → Nat → Int32) (p c : Nat) (x1 x2 sp : Int32) (ck : Int) (ms : Nat → Int32) (i t : Nat) : Int64 := q_absL (wV vX I p c x1 sp ck ms t - (I 87 i).toInt64) + q_absL (wV vY I p c x2 sp ck ms t - (I 88 i).toInt64)
def mf (I : Nat → Nat → Int32) (p c n : Nat) (x1 x2 sp : Int32) (ck : Int) (ms : Nat → Int32) : Int64 := sLg (fun i => tF I p c x1 x2 sp ck ms i (I 86 i).toNatClampNeg) n
theorem mf_t {I I' : Nat → Nat → Int32} (h : Tg I I') {p c n : Nat} {x1 x2 sp : Int32} {ck : Int} {ms : Nat → Int32} : mf I' p c n x1 x2 sp ck ms = mf I p c n x1 x2 sp ck ms := by
  unfold mf tF wV
  rw [Tg_row h 59 (by decide) (by decide) (by decide) (by decide), Tg_row h 60 (by decide) (by decide) (by decide) (by decide), Tg_row h 86 (by decide) (by decide) (by decide) (by decide), Tg_row h 87 (by decide) (by decide) (by decide) (by decide), Tg_row h 88 (by decide) (by decide) (by decide) (by decide), h 58 16 (by decide) (by decide) (by omega) (by omega), h 58 17 (by decide) (by decide) (by omega) (by omega)]
def Go (x1 x2 sp : Int32) : Prop := (-100000 ≤ x1.toInt ∧ x1.toInt ≤ 100000) ∧ (-100000 ≤ x2.toInt ∧ x2.toInt ≤ 100000) ∧ 1 ≤ sp.toInt ∧ sp.toInt ≤ 20
theorem wV_in {v : Int32 → Int32} {I : Nat → Nat → Int32} {p c : Nat} {x0 sp : Int32} {ck : Int} {ms : Nat → Int32} (hP : Pn I p c) (hv : ∀ x : Int32, -4 ≤ x.toInt ∧ x.toInt ≤ 4 → -1000 ≤ (v x).toInt ∧ (v x).toInt ≤ 1000) (hx : -100000 ≤ x0.toInt ∧ x0.toInt ≤ 100000) (hs : 1 ≤ sp.toInt ∧ sp.toInt ≤ 20) {t : Nat} (ht : t ≤ 600) : -12100000 ≤ (wV v I p c x0 sp ck ms t).toInt ∧ (wV v I p c x0 sp ck ms t).toInt ≤ 12100000 := by
  have := wk_in (v := v) (cr := crs (I 58 16).toInt (I 58 17).toInt ck (fun j => I 59 (12 * p + j)) (fun j => I 60 (12 * p + j)) ms c) (x0 := x0.toInt64) (sp := sp) (fun t => hv _ (crs_in (fun i hi => ⟨(hP.2.2.2.2.1 i hi).2.2.2.2.1, (hP.2.2.2.2.1 i hi).2.2.2.2.2⟩))) (by rw [r_64]; exact hx) hs t (by omega)
  unfold wV
  omega
theorem hvX {x : Int32} (h : -4 ≤ x.toInt ∧ x.toInt ≤ 4) : -1000 ≤ (vX x).toInt ∧ (vX x).toInt ≤ 1000 := by have := vX_in h; omega
theorem tF_in {I : Nat → Nat → Int32} {p c n : Nat} {x1 x2 sp : Int32} {ck : Int} {ms : Nat → Int32} (hC : Ct I p c n) (hg : Go x1 x2 sp) {i t : Nat} (hi : i < n) (ht : t ≤ 600) : 0 ≤ (tF I p c x1 x2 sp ck ms i t).toInt ∧ (tF I p c x1 x2 sp ck ms i t).toInt ≤ (100000000 : Nat) := by
  obtain ⟨hP, _, _, _, _, hn, _, _, hs⟩ := hC
  obtain ⟨_, _, _, _, _, a1, a2, a3, a4⟩ := hs i hi
  have u1 := wV_in (v := vX) (ck := ck) (ms := ms) hP (fun x h => hvX h) hg.1 hg.2.2 ht
  have u2 := wV_in (v := vY) (ck := ck) (ms := ms) hP (fun x h => vY_in h) hg.2.1 hg.2.2 ht
  have s1 : (wV vX I p c x1 sp ck ms t - (I 87 i).toInt64).toInt = (wV vX I p c x1 sp ck ms t).toInt - (I 87 i).toInt := by rw [subL (by rw [r_64]; omega), r_64]
  have s2 : (wV vY I p c x2 sp ck ms t - (I 88 i).toInt64).toInt = (wV vY I p c x2 sp ck ms t).toInt - (I 88 i).toInt := by rw [subL (by rw [r_64]; omega), r_64]
  have v1 := absL_in (x := wV vX I p c x1 sp ck ms t - (I 87 i).toInt64) (b := 30000000) (by rw [s1]; omega) (by decide)
  have v2 := absL_in (x := wV vY I p c x2 sp ck ms t - (I 88 i).toInt64) (b := 30000000) (by rw [s2]; omega) (by decide)
  unfold tF
  rw [addL (by omega)]
  omega
theorem tm_in {I : Nat → Nat → Int32} {p c n : Nat} (hC : Ct I p c n) {i : Nat} (hi : i < n) : (I 86 i).toNatClampNeg ≤ 600 ∧ I 86 i = nI (I 86 i).toNatClampNeg := by
  obtain ⟨_, _, _, a4, a5, _⟩ := hC.2.2.2.2.2.2.2.2 i hi
  obtain ⟨k, hk, e⟩ := r_of (n := 601) a4 (by omega) (by decide)
  rw [e, r_cl (by omega)]
  exact ⟨by omega, rfl⟩
theorem mf_in {I : Nat → Nat → Int32} {p c n : Nat} {x1 x2 sp : Int32} {ck : Int} {ms : Nat → Int32} (hC : Ct I p c n) (hg : Go x1 x2 sp) : 0 ≤ (mf I p c n x1 x2 sp ck ms).toInt ∧ (mf I p c n x1 x2 sp ck ms).toInt < 4611686018427387904 := by
  have hn : n ≤ 12 := hC.2.2.2.2.2.1
  have := sLg_in (f := fun i => tF I p c x1 x2 sp ck ms i (I 86 i).toNatClampNeg) (b := 100000000) (by decide) n (by omega) (fun i hi => tF_in hC hg hi (tm_in hC hi).1)
  unfold mf
  omega
/-- the reference's misfit -/
theorem misfit29 {s : q_Mm} {p c n t : Nat} {x1 x2 sp ck : Int32} {ms : Nat → Int32} (hC : Ct s.1 p c n) (hg : Go x1 x2 sp) (ht : t ≤ 600) (h5 : s.2 58 5 = wV vX s.1 p c x1 sp ck.toInt ms t) (h6 : s.2 58 6 = wV vY s.1 p c x2 sp ck.toInt ms t) (y : Int64) : l_X10_misfit_29 7000 sp ck y (nI t) 0 s = some (y + sLg (fun i => if (s.1 86 i).toNatClampNeg = t then tF s.1 p c x1 x2 sp ck.toInt ms i t else 0) n) := by
  have hn : n ≤ 12 := hC.2.2.2.2.2.1
  have u1 := wV_in (v := vX) (ck := ck.toInt) (ms := ms) hC.1 (fun x h => hvX h) hg.1 hg.2.2 ht
  have u2 := wV_in (v := vY) (ck := ck.toInt) (ms := ms) hC.1 (fun x h => vY_in h) hg.2.1 hg.2.2 ht
  have l := qlp7g (fun f i (z : Int64) => l_X10_misfit_29 f sp ck z (nI t) (nI i) s) n 0 (fun i => y + sLg (fun i => if (s.1 86 i).toNatClampNeg = t then tF s.1 p c x1 x2 sp ck.toInt ms i t else 0) i) (fun z => z) (by omega) (by omega)
    (fun f => by
      show l_X10_misfit_29 (f + 1) _ _ _ _ _ _ = _
      unfold l_X10_misfit_29
      rw [hC.2.2.2.2.2.2.2.1, if_pos (nI_le (Nat.le_refl _) (by omega))])
    (fun f i _ hi => by
      show l_X10_misfit_29 (f + 1) _ _ _ _ _ _ = l_X10_misfit_29 f _ _ _ _ _ _
      obtain ⟨_, _, _, _, _, a1, a2, a3, a4⟩ := hC.2.2.2.2.2.2.2.2 i hi
      have htm := tm_in hC hi
      conv => lhs; unfold l_X10_misfit_29
      rw [hC.2.2.2.2.2.2.2.1, if_neg (nI_ge hi (by omega)), if_pos (r_in (show i < 12 by omega) (by decide)), r_cl (show i < 2 ^ 31 by omega), nI_1, sLg_s]
      by_cases he : (s.1 86 i).toNatClampNeg = t
      · rw [if_pos (show s.1 86 i = nI t by rw [← he]; exact htm.2), if_pos (r_in (show i < 12 by omega) (by decide)), if_pos (r_in (show i < 12 by omega) (by decide)), if_pos he, h5, h6, far_abs (by omega) (by rw [r_64]; omega), far_abs (by omega) (by rw [r_64]; omega), Int64.add_assoc]
        rfl
      · rw [if_neg (show ¬ s.1 86 i = nI t from fun z => he (by rw [z, r_cl (by omega)])), if_neg he, ← Int64.add_assoc])
  have l' : l_X10_misfit_29 7000 sp ck (y + 0) (nI t) 0 s = _ := l
  rw [Int64.add_zero] at l'
  exact l'
theorem misfit10 {s : q_Mm} {p c n : Nat} {x1 x2 sp ck : Int32} {ms : Nat → Int32} (hC : Ct s.1 p c n) (hg : Go x1 x2 sp) (hk : -5 ≤ ck.toInt ∧ ck.toInt ≤ 5) (hm : ∀ h, h < 11 → s.1 62 h = ms h) : ∃ s', f_X10_misfit x1 x2 sp ck s = some (mf s.1 p c n x1 x2 sp ck.toInt ms, s') ∧ s'.1 = s.1 ∧ s'.2 58 48 = s.2 58 48 := by
  obtain ⟨⟨y, s'⟩, e, h⟩ := qlp7 (fun f i (z : Int64 × q_Mm) => l_X10_misfit_18 f sp ck z.1 (nI i) z.2) 601 0 (0, q_wl (q_wl s 58 5 x1.toInt64) 58 6 x2.toInt64) (fun t z => z.1 = sLg (fun t => sLg (fun i => if (s.1 86 i).toNatClampNeg = t then tF s.1 p c x1 x2 sp ck.toInt ms i t else 0) n) t ∧ z.2.1 = s.1 ∧ z.2.2 58 5 = wV vX s.1 p c x1 sp ck.toInt ms t ∧ z.2.2 58 6 = wV vY s.1 p c x2 sp ck.toInt ms t ∧ z.2.2 58 48 = s.2 58 48) (fun z => z) (by decide) (by decide)
    ⟨rfl, rfl, rfl, rfl, rfl⟩
    (fun f z h => by
      show l_X10_misfit_18 (f + 1) _ _ _ _ _ = _
      unfold l_X10_misfit_18
      rw [if_pos (show (600 : Int32) < nI 601 by decide)])
    (fun f t z ht h => by
      obtain ⟨y, u⟩ := z
      obtain ⟨e1, e2, e3, e4, e5⟩ := h
      dsimp only at e1 e2 e3 e4 e5 ⊢
      rw [← e2] at e1 e3 e4 hC hm ⊢
      have st := step10 (m := u) (t := t) (sp := sp) hC.1.1 hC.2.2.1 hC.1.2.1 hC.1.2.2.2.1 hk (by omega) rfl
      have hcr : ∀ v x0, wV v u.1 p c x0 sp ck.toInt ms (t + 1) = wV v u.1 p c x0 sp ck.toInt ms t + (v (crs (u.1 58 16).toInt (u.1 58 17).toInt ck.toInt (fun j => u.1 59 (12 * p + j)) (fun j => u.1 60 (12 * p + j)) (u.1 62) c t)).toInt64 * sp.toInt64 := fun v x0 => by
        rw [crs_congr (ms' := u.1 62) (ms := ms) (fun _ _ => ⟨rfl, rfl⟩) hm (by omega) hk.2]
        rfl
      obtain ⟨Q, q1, q2, q3, q4, q5⟩ : ∃ Q : q_Mm, f_X10_step (nI t) ck sp u = some Q ∧ Q.1 = u.1 ∧ Q.2 58 5 = wV vX u.1 p c x1 sp ck.toInt ms (t + 1) ∧ Q.2 58 6 = wV vY u.1 p c x2 sp ck.toInt ms (t + 1) ∧ Q.2 58 48 = s.2 58 48 := ⟨_, st, rfl, by
          rw [r_wl2, if_neg (by omega), r_wl2, if_pos ⟨rfl, rfl⟩, hcr, e3], by
          rw [r_wl2, if_pos ⟨rfl, rfl⟩, hcr, e4], by
          rw [r_wl2, if_neg (by omega), r_wl2, if_neg (by omega), e5]⟩
      refine ⟨(y + sLg (fun i => if (u.1 86 i).toNatClampNeg = t then tF u.1 p c x1 x2 sp ck.toInt ms i t else 0) n, Q), ?_, ?_, q2, q3, q4, q5⟩
      · show l_X10_misfit_18 (f + 1) _ _ _ _ _ = l_X10_misfit_18 f _ _ _ _ _
        conv => lhs; unfold l_X10_misfit_18
        rw [if_neg (show ¬ (600 : Int32) < nI t by rw [r_lt, r_nI (by omega)]; show ¬ (600 : Int) < _; omega), misfit29 hC hg (by omega) e3 e4, Option.bind_some, q1, Option.bind_some, nI_1]
      · dsimp only
        rw [sLg_s, e1])
  obtain ⟨e1, e2, e3, e4, e5⟩ := h
  dsimp only at e1 e2 e5
  refine ⟨s', ?_, e2, e5⟩
  unfold f_X10_misfit
  rw [show l_X10_misfit_18 7000 sp ck 0 0 (q_wl (q_wl s 58 5 x1.toInt64) 58 6 x2.toInt64) = _ from e, Option.bind_some]
  dsimp only
  rw [e1, sLg_swap (F := fun i t => tF s.1 p c x1 x2 sp ck.toInt ms i t) (tm := fun i => (s.1 86 i).toNatClampNeg) n (fun i hi => by have := (tm_in hC hi).1; omega)]
  rfl
