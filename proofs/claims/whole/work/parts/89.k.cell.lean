/-! PURE: routes: a cell's worth and its move -/
def gD (I : Nat → Nat → Int32) (e : Int32) (T to d f c : Nat) : Nat := dpG (frD I e.toInt T) (enD I e.toInt T to) (dgD I) d f c
/-- the kept move is the first -/
def Kok (I : Nat → Nat → Int32) (e : Int32) (G Id to g i c : Nat) (s : q_Mm) : Prop := frD I e.toInt (G + Id) c (g + i) = true → enD I e.toInt (G + Id) to c (g + i) = false → 1 ≤ g + i → kpS s G g i c = nI (gD I e (G + Id) to (g + i - 1) g c)
theorem dpM_no {b : Nat → Nat} (h0 : b 0 ≤ dpN) (h : ∀ m, 1 ≤ m → b m = dpN) : ∀ k, dpM b k = b 0 ∧ dpI b k = 0 := by
  intro k
  induction k with
  | zero => exact ⟨rfl, rfl⟩
  | succ k ih =>
    unfold dpM dpI
    rw [ih.1, ih.2, h (k + 1) (by omega), if_neg (by omega), if_neg (by omega)]
    exact ⟨rfl, rfl⟩
theorem weigh9 {I : Nat → Nat → Int32} {e : Int32} {G Id fm to S g i x y : Nat} {s : q_Mm} (hC : ClS I e G Id fm to S) (hM : ClM I e G Id fm to S s) (hg : g ≤ G) (hi : i ≤ Id) (hx : x < 12) (hy : y < 12)
    (h1 : 0 < i → s.1 90 (144 * g + (12 * y + x)) = nI (cvN (cfD I e (G + Id) to (g + i - 1) g (12 * y + x))))
    (h2 : i = 0 → 0 < g → s.1 90 (144 * (g - 1) + (12 * y + x)) = nI (cvN (cfD I e (G + Id) to (g - 1) (g - 1) (12 * y + x))))
    (h3 : 0 < g → ∀ m, 1 ≤ m → m ≤ 8 → dpV (12 * y + x) m → s.1 90 (144 * (g - 1) + dpT (12 * y + x) m) = nI (cvN (cfD I e (G + Id) to (g + i - 1) (g - 1) (dpT (12 * y + x) m)))) :
    ∃ s', f_X4_weigh (nI g) (nI i) (nI x) (nI y) s = some (nI (cvN (cfD I e (G + Id) to (g + i) g (12 * y + x))), s') ∧ s'.1 = s.1 ∧ (∀ q, ¬ q = 91 → s'.2 q = s.2 q) ∧ Kok I e G Id to g i (12 * y + x) s' ∧ ∀ g' i' c', g' ≤ G → c' < 144 → ¬ (g' = g ∧ i' = i ∧ c' = 12 * y + x) → kpS s' G g' i' c' = kpS s G g' i' c' := by
  have hGI := hC.2.2.1
  have hc : 12 * y + x < 144 := by omega
  have ec : 12 * nI y + nI x = nI (12 * y + x) := by rw [show (12 : Int32) = nI 12 from rfl, pk_mul, nI_add]
  generalize hcc : 12 * y + x = c at *
  have hfr : frD I e.toInt (G + Id) c (g + i) = fdB I e.toInt c (G + Id - (g + i)) := rfl
  unfold f_X4_weigh
  rw [ec, if_pos (r_in hc (by decide)), r_cl (by omega), day9 hC hM hg hi, hM.1 33 (by decide) (by decide), (hC.2.1 c hc).1]
  by_cases hl : I 81 c = -1
  · have hno : frD I e.toInt (G + Id) c (g + i) = false := by
      rw [hfr]
      unfold fdB
      rw [hl]
      rfl
    rw [if_pos hl]
    refine ⟨s, ?_, rfl, fun _ _ => rfl, (fun w => by rw [hno] at w; cases w), fun _ _ _ _ _ _ => rfl⟩
    unfold cfD dpF
    rw [hno, if_neg (by decide), cv_N]
    rfl
  · rw [if_neg hl, aptCl hC hM hc (by omega), Option.bind_some]
    have hl0 : 0 ≤ (I 81 c).toInt := by
      have := (hC.2.1 c hc).2.1
      rw [r_eq, show (-1 : Int32).toInt = -1 from rfl] at hl
      omega
    have hfd : fdB I e.toInt c (G + Id - (g + i)) = aptB I e.toInt c (G + Id - (g + i)) := by
      unfold fdB
      rw [decide_eq_true hl0, Bool.true_and]
    by_cases ha : aptB I e.toInt c (G + Id - (g + i)) = true
    · rw [if_pos ha, if_neg (by decide)]
      have hfree : frD I e.toInt (G + Id) c (g + i) = true := by rw [hfr, hfd]; exact ha
      have hdg : I 81 c = nI (dgD I c) := fdB_dg hc (by rw [← hfr]; exact hfree)
      rw [ends9 hC hM hc (by omega) hfree]
      by_cases he : enD I e.toInt (G + Id) to c (g + i) = true
      · rw [if_pos he, if_neg (by decide)]
        refine ⟨s, ?_, rfl, fun _ _ => rfl, (fun _ w => by rw [he] at w; cases w), fun _ _ _ _ _ _ => rfl⟩
        unfold cfD dpF
        rw [if_pos hfree, dpC_e he]
        rfl
      · rw [if_neg he, if_pos rfl]
        rw [Bool.not_eq_true] at he
        have hcf : cfD I e (G + Id) to (g + i) g c = dpC (frD I e.toInt (G + Id)) (enD I e.toInt (G + Id) to) (dgD I) (g + i) g c := by
          unfold cfD dpF
          rw [if_pos hfree]
        rw [hcf]
        by_cases h0 : g + i = 0
        · have hg0 : g = 0 := by omega
          have hi0 : i = 0 := by omega
          subst hg0 hi0
          obtain ⟨s', k1, k2, k3, k4, k5⟩ := keep9 (s := s) (G := G) (g := 0) (i := 0) (c := c) (j := 0) hM.2.2.2.1 (by omega) (by omega) hg hc (by decide)
          refine ⟨s', ?_, k2, k3, fun _ _ w => by omega, k5⟩
          have ws : f_X4_worthOfStaying (nI 0) (nI 0) (nI c) s = some 536870912 := by
            unfold f_X4_worthOfStaying
            rw [if_pos (by decide), if_pos (by decide), if_pos (by decide)]
          have lp : l_X4_weigh_71 7000 (nI 0) (nI 0) (nI x) (nI y) (nI c) 536870912 0 1 s = some (536870912, 0) := by
            show l_X4_weigh_71 (6999 + 1) _ _ _ _ _ _ _ _ _ = _
            unfold l_X4_weigh_71
            rw [if_neg (by decide), if_pos (by decide)]
          rw [ws, Option.bind_some, lp, Option.bind_some, show f_X4_keepMove (nI 0) (nI 0) (nI c) 0 s = _ from k1, Option.bind_some, dpC_0 he, cv_N]
          rfl
        · obtain ⟨d, hd⟩ : ∃ d, g + i = d + 1 := ⟨g + i - 1, by omega⟩
          have hd1 : g + i - 1 = d := by omega
          rw [hd1] at h1 h3
          rw [hd, dpC_s (by rw [← hd]; exact he)]
          have hst := wst9 hC hM hg hi hd.symm hc hdg h1 h2
          have hW : ∀ m, dpW (d + 1) g (dpB (frD I e.toInt (G + Id)) (dgD I) (dpC (frD I e.toInt (G + Id)) (enD I e.toInt (G + Id) to) (dgD I) d) d g c m) := fun m => dpB_W (dgD_le (ClS_D hC)) (fun f t => dpC_W (dgD_le (ClS_D hC)) d (by omega) f t) (by omega)
          have hG : ∀ v, gD I e (G + Id) to d g c = v ↔ dpI (dpB (frD I e.toInt (G + Id)) (dgD I) (dpC (frD I e.toInt (G + Id)) (enD I e.toInt (G + Id) to) (dgD I) d) d g c) 8 = v := fun v => Iff.rfl
          have hgo : 0 < g → ∀ m, 1 ≤ m → m ≤ 8 → f_X4_worthOfGoing (nI g - 1) (nI x + q_sv 2 m) (nI y + q_sv 3 m) s = some (nI (cvN (dpB (frD I e.toInt (G + Id)) (dgD I) (dpC (frD I e.toInt (G + Id)) (enD I e.toInt (G + Id) to) (dgD I) d) d g c m))) := by
            intro hg0 m m1 m2
            obtain ⟨g0, rfl⟩ : ∃ g0, g = g0 + 1 := ⟨g - 1, by omega⟩
            have := wgo9 (x := x) (y := y) (m := m) (d := d) (g := g0) hC hM hg (by omega) hx hy m1 m2 (by rw [hcc]; exact h3 hg0 m m1 m2)
            rw [hcc] at this
            exact this
          generalize hb : dpB (frD I e.toInt (G + Id)) (dgD I) (dpC (frD I e.toInt (G + Id)) (enD I e.toInt (G + Id) to) (dgD I) d) d g c = b at *
          have lp : l_X4_weigh_71 7000 (nI g) (nI i) (nI x) (nI y) (nI c) (nI (cvN (b 0))) 0 1 s = some (nI (cvN (dpM b 8)), nI (dpI b 8)) := by
            by_cases hg0 : g = 0
            · have hno := dpM_no (b := b) (dpW_le (hW 0) (by omega)) (fun m hm => by
                rw [← hb]
                unfold dpB
                rw [if_neg (by omega), if_neg (fun w => by omega)]) 8
              rw [hno.1, hno.2, hg0]
              show l_X4_weigh_71 (6999 + 1) _ _ _ _ _ _ _ _ _ = _
              unfold l_X4_weigh_71
              rw [if_neg (by decide), if_pos (by decide)]
              rfl
            · have := qlp7g (fun f m (z : Int32 × Int32) => l_X4_weigh_71 f (nI g) (nI i) (nI x) (nI y) (nI c) z.1 z.2 (nI m) s) 9 1 (fun m => (nI (cvN (dpM b (m - 1))), nI (dpI b (m - 1)))) (fun z => z) (by decide) (by decide)
                (fun f => by
                  show l_X4_weigh_71 (f + 1) _ _ _ _ _ _ _ _ _ = _
                  unfold l_X4_weigh_71
                  rw [if_pos (by decide)])
                (fun f m m1 m2 => by
                  show l_X4_weigh_71 (f + 1) _ _ _ _ _ _ _ _ _ = l_X4_weigh_71 f _ _ _ _ _ _ _ _ _
                  conv => lhs; unfold l_X4_weigh_71
                  have hWM : dpW (d + 1) g (dpM b (m - 1)) := by rw [(dpM_I (m - 1)).1]; exact hW _
                  have hlt := cv_lt (hW m) hWM (by omega) (by omega)
                  have l1 := cv_le (hW m) (by omega)
                  have l2 := cv_le hWM (by omega)
                  rw [if_neg (show ¬ (9 : Int32) ≤ nI m from nI_ge (b := 9) m2 (by decide)), if_neg (show ¬ nI g ≤ 0 from fun w => hg0 ((nI_le0 (by omega)).mp w)), if_pos (r_in m2 (by decide)), if_pos (r_in m2 (by decide)), r_cl (by omega), hgo (by omega) m m1 (by omega), Option.bind_some, nI_1, show m + 1 - 1 = (m - 1) + 1 by omega]
                  have eM : dpM b (m - 1 + 1) = if b (m - 1 + 1) < dpM b (m - 1) then b (m - 1 + 1) else dpM b (m - 1) := rfl
                  have eI : dpI b (m - 1 + 1) = if b (m - 1 + 1) < dpM b (m - 1) then m - 1 + 1 else dpI b (m - 1) := rfl
                  rw [show m - 1 + 1 = m by omega] at eM eI ⊢
                  rw [eM, eI]
                  by_cases hq : b m < dpM b (m - 1)
                  · rw [if_neg (nI_ge (hlt.mpr hq) (by omega)), if_pos hq, if_pos hq]
                  · rw [if_pos (nI_le (by have := mt hlt.mp hq; omega) (by omega)), if_neg hq, if_neg hq])
              exact this
          obtain ⟨s', k1, k2, k3, k4, k5⟩ := keep9 (s := s) (G := G) (g := g) (i := i) (c := c) (j := dpI b 8) hM.2.2.2.1 (by omega) (by omega) hg hc (by have := (dpM_I (b := b) 8).2.1; omega)
          refine ⟨s', ?_, k2, k3, fun _ _ _ => ?_, k5⟩
          · rw [hst, Option.bind_some, lp, Option.bind_some]
            dsimp only
            rw [k1, Option.bind_some]
          · rw [k4, hd1, (hG _).mpr rfl]
    · rw [if_neg ha, if_pos rfl]
      have hno : frD I e.toInt (G + Id) c (g + i) = false := by
        rw [hfr, hfd]
        rw [Bool.not_eq_true] at ha
        exact ha
      refine ⟨s, ?_, rfl, fun _ _ => rfl, (fun w => by rw [hno] at w; cases w), fun _ _ _ _ _ _ => rfl⟩
      unfold cfD dpF
      rw [hno, if_neg (by decide), cv_N]
      rfl
