/-! PURE: routes: the reference's table of costs -/
/-- only the costs differ -/
def Sx (s s' : q_Mm) : Prop := s'.2 = s.2 ∧ ∀ q, ¬ q = 85 → s'.1 q = s.1 q
theorem Sx_rf {s : q_Mm} : Sx s s := ⟨rfl, fun _ _ => rfl⟩
theorem Sx_tr {a b c : q_Mm} (h : Sx a b) (h' : Sx b c) : Sx a c := ⟨h'.1.trans h.1, fun q hq => (h'.2 q hq).trans (h.2 q hq)⟩
def Dn (I : Nat → Nat → Int32) (e : Int32) (T F to day f c : Nat) (s : q_Mm) : Prop := ∀ day' f' t, day' ≤ T → f' ≤ F → t < 144 → (day < day' ∨ (day' = day ∧ (f' < f ∨ (f' = f ∧ t < c)))) → s.1 85 (144 * (41 * day' + f') + t) = nI (cR I e T to (T - day') f' t)
theorem Dn_w {I : Nat → Nat → Int32} {e : Int32} {T F to day f c : Nat} {s : q_Mm} (hF : F ≤ 40) (hf : f ≤ F) (hc : c < 144) (h : Dn I e T F to day f c s) : Dn I e T F to day f (c + 1) (q_wi s 85 (144 * (41 * day + f) + c) (nI (cR I e T to (T - day) f c))) := by
  intro day' f' t h1 h2 h3 h4
  rw [r_wi]
  by_cases hx : day' = day ∧ f' = f ∧ t = c
  · obtain ⟨rfl, rfl, rfl⟩ := hx
    rw [if_pos ⟨rfl, rfl⟩]
  · rw [if_neg (fun w => hx (by omega))]
    exact h day' f' t h1 h2 h3 (by omega)
theorem costs20 {I : Nat → Nat → Int32} {e : Int32} {T F to day f : Nat} {s : q_Mm} (hO : Oc I s) (hK : Kn I e T F) (hto : to < 144) (hday : day ≤ T) (hf : f ≤ F) (h : Dn I e T F to day f 0 s) : ∃ s', l_X10_findCosts_20 7000 (nI to) (nI T) (nI F) (nI day) (nI f) 0 s = some s' ∧ Oc I s' ∧ Sx s s' ∧ Dn I e T F to day f 144 s' := by
  have hT : T ≤ 40 := hK.2.2.1
  have hF : F ≤ 40 := hK.2.2.2.1
  obtain ⟨s', e1, e2, e3, e4⟩ := qlp7 (fun k c (z : q_Mm) => l_X10_findCosts_20 k (nI to) (nI T) (nI F) (nI day) (nI f) (nI c) z) 144 0 s (fun c z => Oc I z ∧ Sx s z ∧ Dn I e T F to day f c z) (fun z => z) (by decide) (by decide) ⟨hO, Sx_rf, h⟩
    (fun k z _ => by
      show l_X10_findCosts_20 (k + 1) _ _ _ _ _ _ _ = _
      unfold l_X10_findCosts_20
      rw [if_pos (by decide)])
    (fun k c z hc ⟨h1, h2, h3⟩ => by
      refine ⟨q_wi z 85 (144 * (41 * day + f) + c) (nI (cR I e T to (T - day) f c)), ?_, ⟨fun q hq hq2 => by rw [r_row hq]; exact h1.1 q hq hq2, fun i hi hi2 => by rw [r_row (by decide)]; exact h1.2 i hi hi2⟩, ⟨h2.1, fun q hq => by rw [r_row hq]; exact h2.2 q hq⟩, Dn_w hF hf hc h3⟩
      show l_X10_findCosts_20 (k + 1) _ _ _ _ _ _ _ = l_X10_findCosts_20 k _ _ _ _ _ _ _
      have hin : q_in (f_X10_placeOf (nI day) (nI f) (nI c) z) 242064 = true := by
        rw [place10]; exact r_in (by omega) (by decide)
      have hcl : (f_X10_placeOf (nI day) (nI f) (nI c) z).toNatClampNeg = 144 * (41 * day + f) + c := by
        rw [place10]; exact r_cl (by omega)
      have e42 : z.1 58 42 = e := by rw [h1.1 58 (by decide) (by decide)]; exact hK.1
      have hG : Ge z.1 (z.1 58 42) := by rw [e42]; exact Oc_Ge h1 hK.1 hK.2.1
      have ens : enD I e.toInt T to c (T - day) = (decide (c = to) && alB (fdB I e.toInt c) day) := by
        unfold enD
        rw [show T - (T - day) = day by omega]
      have hst := stay10 (c := c) (day := day) hG hc (by omega)
      rw [e42, show fdB z.1 e.toInt c = fdB I e.toInt c from funext fun k => Oc_fd h1 _ _ _] at hst
      have rest : enD I e.toInt T to c (T - day) = false → (if nI day = nI T then (if q_in (f_X10_placeOf (nI day) (nI f) (nI c) z) 242064 = true then l_X10_findCosts_20 k (nI to) (nI T) (nI F) (nI day) (nI f) (nI c + 1) (q_wi z 85 ((f_X10_placeOf (nI day) (nI f) (nI c) z).toNatClampNeg) 1000000000) else none) else (f_X10_cheapest (nI day) (nI f) (nI c) z).bind fun r7 => if q_in (f_X10_placeOf (nI day) (nI f) (nI c) z) 242064 = true then l_X10_findCosts_20 k (nI to) (nI T) (nI F) (nI day) (nI f) (nI c + 1) (q_wi z 85 ((f_X10_placeOf (nI day) (nI f) (nI c) z).toNatClampNeg) r7) else none) = l_X10_findCosts_20 k (nI to) (nI T) (nI F) (nI day) (nI f) (nI (c + 1)) (q_wi z 85 (144 * (41 * day + f) + c) (nI (cR I e T to (T - day) f c))) := by
        intro hen
        rw [if_pos hin, hcl, nI_1]
        by_cases hdT : day = T
        · rw [if_pos (by rw [hdT])]
          have : cR I e T to (T - day) f c = dpN := by
            unfold cR
            rw [show T - day = 0 by omega] at hen ⊢
            exact dpC_0 hen
          rw [this]
          rfl
        · rw [if_neg (fun w => hdT ((nI_eq (by omega) (by omega)).mp w)), cheap10 (to := to) h1 hK (by omega) hf hc (fun f' t h5 h6 => h3 (day + 1) f' t (by omega) h5 h6 (by omega)), Option.bind_some, if_pos hin]
          have : cR I e T to (T - day) f c = dpM (bR I e T to (T - (day + 1)) f c) 8 := by
            unfold cR
            rw [show T - day = (T - (day + 1)) + 1 by omega] at hen ⊢
            exact dpC_s hen
          rw [this]
      conv => lhs; unfold l_X10_findCosts_20
      rw [if_neg (show ¬ (144 : Int32) ≤ nI c from nI_ge (b := 144) hc (by decide))]
      by_cases hct : c = to
      · rw [if_pos (by rw [hct]), hst, Option.bind_some]
        by_cases ha : alB (fdB I e.toInt c) day = true
        · rw [if_pos ha, if_neg (by decide), if_pos hin, hcl, nI_1]
          have : cR I e T to (T - day) f c = 0 := by
            unfold cR
            exact dpC_e (by rw [ens, ha, decide_eq_true hct]; rfl)
          rw [this]
          rfl
        · rw [if_neg ha, if_pos rfl]
          exact rest (by rw [ens]; rw [Bool.not_eq_true] at ha; rw [ha, Bool.and_false])
      · rw [if_neg (fun w => hct ((nI_eq (by omega) (by omega)).mp w))]
        exact rest (by rw [ens, decide_eq_false hct]; rfl))
  exact ⟨s', e1, e2, e3, e4⟩
theorem costs11 {I : Nat → Nat → Int32} {e : Int32} {T F to day : Nat} {s : q_Mm} (hO : Oc I s) (hK : Kn I e T F) (hto : to < 144) (hday : day ≤ T) (h : Dn I e T F to day 0 0 s) : ∃ s', l_X10_findCosts_11 7000 (nI to) (nI T) (nI F) (nI day) 0 s = some s' ∧ Oc I s' ∧ Sx s s' ∧ Dn I e T F to day (F + 1) 0 s' := by
  have hF : F ≤ 40 := hK.2.2.2.1
  obtain ⟨s', e1, e2, e3, e4⟩ := qlp7 (fun k f (z : q_Mm) => l_X10_findCosts_11 k (nI to) (nI T) (nI F) (nI day) (nI f) z) (F + 1) 0 s (fun f z => Oc I z ∧ Sx s z ∧ Dn I e T F to day f 0 z) (fun z => z) (by omega) (by omega) ⟨hO, Sx_rf, h⟩
    (fun k z _ => by
      show l_X10_findCosts_11 (k + 1) _ _ _ _ _ _ = _
      unfold l_X10_findCosts_11
      rw [if_pos (show nI F < nI (F + 1) by rw [r_lt, r_nI (by omega), r_nI (by omega)]; omega)])
    (fun k f z hf ⟨h1, h2, h3⟩ => by
      obtain ⟨u, u1, u2, u3, u4⟩ := costs20 h1 hK hto hday (by omega) h3
      refine ⟨u, ?_, u2, Sx_tr h2 u3, fun day' f' t a1 a2 a3 a4 => u4 day' f' t a1 a2 a3 (by omega)⟩
      show l_X10_findCosts_11 (k + 1) _ _ _ _ _ _ = l_X10_findCosts_11 k _ _ _ _ _ _
      conv => lhs; unfold l_X10_findCosts_11
      rw [if_neg (show ¬ nI F < nI f by rw [r_lt, r_nI (by omega), r_nI (by omega)]; omega), u1, Option.bind_some, nI_1])
  exact ⟨s', e1, e2, e3, e4⟩
theorem costs3 {I : Nat → Nat → Int32} {e : Int32} {T F to : Nat} (hK : Kn I e T F) (hto : to < 144) : ∀ (j fuel : Nat) (s : q_Mm), j ≤ T + 1 → j < fuel → Oc I s → (∀ day, j ≤ day → day ≤ T → Rw I e T F to day s) → ∃ s', l_X10_findCosts_3 fuel (nI to) (nI T) (nI F) (nI j + (-1)) s = some s' ∧ Oc I s' ∧ Sx s s' ∧ ∀ day, day ≤ T → Rw I e T F to day s' := by
  have hT : T ≤ 40 := hK.2.2.1
  intro j
  induction j with
  | zero =>
    intro fuel s h1 h2 h3 h4
    obtain ⟨k, rfl⟩ : ∃ k, fuel = k + 1 := ⟨fuel - 1, by omega⟩
    refine ⟨s, ?_, h3, Sx_rf, fun day hd => h4 day (by omega) hd⟩
    unfold l_X10_findCosts_3
    rw [if_pos (by decide)]
  | succ j ih =>
    intro fuel s h1 h2 h3 h4
    obtain ⟨k, rfl⟩ : ∃ k, fuel = k + 1 := ⟨fuel - 1, by omega⟩
    obtain ⟨u, u1, u2, u3, u4⟩ := costs11 (day := j) h3 hK hto (by omega) (fun day' f' t a1 a2 a3 a4 => h4 day' (by omega) a1 f' t a2 a3)
    obtain ⟨v, v1, v2, v3, v4⟩ := ih k u (by omega) (by omega) u2 (fun day a1 a2 f' t a3 a4 => u4 day f' t a2 a3 a4 (by omega))
    refine ⟨v, ?_, v2, Sx_tr u3 v3, v4⟩
    unfold l_X10_findCosts_3
    rw [nI_p1 (by omega), show j + 1 - 1 = j by omega, if_neg (nI_pos (by omega)), u1, Option.bind_some]
    exact v1
theorem costs10 {I : Nat → Nat → Int32} {e : Int32} {T F to : Nat} {s : q_Mm} (hO : Oc I s) (hK : Kn I e T F) (hto : to < 144) : ∃ s', f_X10_findCosts (nI to) (nI T) (nI F) s = some s' ∧ Oc I s' ∧ Sx s s' ∧ ∀ day, day ≤ T → Rw I e T F to day s' := by
  have hT : T ≤ 40 := hK.2.2.1
  obtain ⟨s', e1, e2⟩ := costs3 hK hto (T + 1) 7000 s (Nat.le_refl _) (by omega) hO (fun day a b => by omega)
  refine ⟨s', ?_, e2⟩
  unfold f_X10_findCosts
  rw [nI_p1 (by omega), show T + 1 - 1 = T by omega] at e1
  rw [e1]
  rfl
/-! the first move -/
def dpK (m : Nat) : Int := 12 * dpY m + dpX m
theorem dpT_k {c m : Nat} (h : dpV c m) : (dpT c m : Int) = (c : Int) + dpK m := by
  have := dpT_xy h
  unfold dpK
  omega
theorem dpK_mono : ∀ m, m < 9 → ∀ a, a < 9 → 1 ≤ m → 1 ≤ a → dpK m < dpK a → m < a := by decide
theorem dp_dir {x y : Int} (hx : -1 ≤ x ∧ x ≤ 1) (hy : -1 ≤ y ∧ y ≤ 1) (h : ¬ (x = 0 ∧ y = 0)) : ∃ m, 1 ≤ m ∧ m ≤ 8 ∧ dpX m = x ∧ dpY m = y := by
  have hx' : x = -1 ∨ x = 0 ∨ x = 1 := by omega
  have hy' : y = -1 ∨ y = 0 ∨ y = 1 := by omega
  rcases hx' with rfl | rfl | rfl <;> rcases hy' with rfl | rfl | rfl
  · exact ⟨1, by decide⟩
  · exact ⟨4, by decide⟩
  · exact ⟨6, by decide⟩
  · exact ⟨2, by decide⟩
  · exact absurd ⟨rfl, rfl⟩ h
  · exact ⟨7, by decide⟩
  · exact ⟨3, by decide⟩
  · exact ⟨5, by decide⟩
  · exact ⟨8, by decide⟩
theorem beside10 {c t : Nat} {m : q_Mm} (hc : c < 144) (ht : t < 144) (hne : ¬ t = c) : (f_X10_areBeside (nI c) (nI t) m = 0 ∧ ∀ k, 1 ≤ k → k ≤ 8 → dpV c k → ¬ dpT c k = t) ∨ (¬ f_X10_areBeside (nI c) (nI t) m = 0 ∧ ∃ k, 1 ≤ k ∧ k ≤ 8 ∧ dpV c k ∧ dpT c k = t) := by
  have d1 : (nI (c % 12) - nI (t % 12)).toInt = ((c % 12 : Nat) : Int) - ((t % 12 : Nat) : Int) := by
    rw [sub_i, r_nI (by omega), r_nI (by omega)] <;> rw [r_nI (by omega), r_nI (by omega)] <;> omega
  have d2 : (nI (c / 12) - nI (t / 12)).toInt = ((c / 12 : Nat) : Int) - ((t / 12 : Nat) : Int) := by
    rw [sub_i, r_nI (by omega), r_nI (by omega)] <;> rw [r_nI (by omega), r_nI (by omega)] <;> omega
  unfold f_X10_areBeside
  rw [rem12 (by omega), rem12 (by omega), div12 (by omega), div12 (by omega)]
  simp only [r_le]
  rw [size10 (by rw [d1]; omega), size10 (by rw [d2]; omega), d1, d2, show (2 : Int32).toInt = 2 from rfl]
  by_cases h1 : 2 ≤ max (((c % 12 : Nat) : Int) - ((t % 12 : Nat) : Int)) (-(((c % 12 : Nat) : Int) - ((t % 12 : Nat) : Int)))
  · rw [if_pos h1]
    refine .inl ⟨rfl, fun k k1 k2 k3 k4 => ?_⟩
    have := dpT_xy k3
    have := dpX_in k
    rw [k4] at *
    omega
  · rw [if_neg h1]
    by_cases h2 : 2 ≤ max (((c / 12 : Nat) : Int) - ((t / 12 : Nat) : Int)) (-(((c / 12 : Nat) : Int) - ((t / 12 : Nat) : Int)))
    · rw [if_pos h2]
      refine .inl ⟨rfl, fun k k1 k2 k3 k4 => ?_⟩
      have := dpT_xy k3
      have := dpY_in k
      rw [k4] at *
      omega
    · rw [if_neg h2]
      obtain ⟨k, k1, k2, k3, k4⟩ := dp_dir (x := ((t % 12 : Nat) : Int) - ((c % 12 : Nat) : Int)) (y := ((t / 12 : Nat) : Int) - ((c / 12 : Nat) : Int)) (by omega) (by omega) (by omega)
      refine .inr ⟨by decide, k, k1, k2, ⟨by omega, by omega, by omega, by omega⟩, ?_⟩
      unfold dpT
      omega
theorem first10 {I : Nat → Nat → Int32} {e : Int32} {T F to day f c : Nat} {s : q_Mm} (hO : Oc I s) (hK : Kn I e T F) (hday : day < T) (hf : f ≤ F) (hc : c < 144) (hR0 : Rw I e T F to day s) (hR : Rw I e T F to (day + 1) s) (hen : enD I e.toInt T to c (T - day) = false) (hn : ¬ cR I e T to (T - day) f c = dpN) : f_X10_firstMove (nI day) (nI f) (nI c) s = some (nI (dpT c (dpG (frD I e.toInt T) (enD I e.toInt T to) (dgD I) (T - (day + 1)) f c))) := by
  have hT : T ≤ 40 := hK.2.2.1
  have hF : F ≤ 40 := hK.2.2.2.1
  have hb := byS hO hK.1 hK.2.1 hK.2.2.1 hK.2.2.2.1 hday hf hc hR hK.2.2.2.2
  have hbl : ∀ m, bR I e T to (T - (day + 1)) f c m < 2 ^ 31 := fun m => by
    have := bR_le (to := to) (d := T - (day + 1)) (f := f) (c := c) (m := m) hK (by omega)
    unfold dpN at this
    omega
  have hcR : cR I e T to (T - day) f c = dpM (bR I e T to (T - (day + 1)) f c) 8 := by
    unfold cR
    rw [show T - day = (T - (day + 1)) + 1 by omega] at hen ⊢
    exact dpC_s hen
  show f_X10_firstMove (nI day) (nI f) (nI c) s = some (nI (dpT c (dpI (bR I e T to (T - (day + 1)) f c) 8)))
  obtain ⟨m1, m2, m3⟩ := dpM_I (b := bR I e T to (T - (day + 1)) f c) 8
  have hcl : (f_X10_placeOf (nI day) (nI f) (nI c) s).toNatClampNeg = 144 * (41 * day + f) + c := by
    rw [place10]; exact r_cl (by omega)
  unfold f_X10_firstMove
  rw [hb, Option.bind_some, hcl, hR0 f c hf hc, hcR, if_pos (show q_in (f_X10_placeOf (nI day) (nI f) (nI c) s) 242064 = true by rw [place10]; exact r_in (by omega) (by decide))]
  show (if nI (bR I e T to (T - (day + 1)) f c 0) = nI (dpM (bR I e T to (T - (day + 1)) f c) 8) then _ else _) = _
  have hml : dpM (bR I e T to (T - (day + 1)) f c) 8 < 2 ^ 31 := by rw [m1]; exact hbl _
  rw [hcR, m1] at hn
  generalize ha : dpI (bR I e T to (T - (day + 1)) f c) 8 = a at *
  by_cases h0 : a = 0
  · rw [if_pos (by rw [m1, h0]), h0, dpT_0]
  · have hlt := m3 0 (by omega)
    rw [if_neg (fun w => by have := (nI_eq (hbl 0) hml).mp w; omega)]
    have hV := (dpB_ne (show ¬ dpB _ _ _ _ f c a = dpN from hn)).2.1 h0
    have hTa := dpT_xy hV.1
    have loop : ∀ (n t fuel : Nat), dpT c a - t ≤ n → t ≤ dpT c a → n < fuel → l_X10_firstMove_31 fuel (nI day) (nI f) (nI c) (nI (dpM (bR I e T to (T - (day + 1)) f c) 8)) (nI t) s = some (.inl (nI (dpT c a))) := by
      intro n
      induction n with
      | zero =>
        intro t fuel t1 t2 t3
        obtain ⟨k, rfl⟩ : ∃ k, fuel = k + 1 := ⟨fuel - 1, by omega⟩
        have : t = dpT c a := by omega
        subst this
        have hne := dpT_ne hV.1 (by omega) m2
        unfold l_X10_firstMove_31
        rw [if_neg (show ¬ (144 : Int32) ≤ nI (dpT c a) from nI_ge (b := 144) hTa.2.2 (by decide)), if_neg (fun w => hne ((nI_eq (by omega) (by omega)).mp w))]
        rcases beside10 (m := s) hc hTa.2.2 hne with w | w
        · exact absurd rfl (w.2 a (by omega) m2 hV.1)
        · rw [if_neg w.1, byG hO hK.1 hK.2.1 hK.2.2.1 hK.2.2.2.1 hday hf hc hR hK.2.2.2.2 (by omega) m2 hV.1, Option.bind_some, if_pos (by rw [m1]; rfl)]
      | succ n ih =>
        intro t fuel t1 t2 t3
        obtain ⟨k, rfl⟩ : ∃ k, fuel = k + 1 := ⟨fuel - 1, by omega⟩
        by_cases hta : t = dpT c a
        · subst hta
          have hne := dpT_ne hV.1 (by omega) m2
          unfold l_X10_firstMove_31
          rw [if_neg (show ¬ (144 : Int32) ≤ nI (dpT c a) from nI_ge (b := 144) hTa.2.2 (by decide)), if_neg (fun w => hne ((nI_eq (by omega) (by omega)).mp w))]
          rcases beside10 (m := s) hc hTa.2.2 hne with w | w
          · exact absurd rfl (w.2 a (by omega) m2 hV.1)
          · rw [if_neg w.1, byG hO hK.1 hK.2.1 hK.2.2.1 hK.2.2.2.1 hday hf hc hR hK.2.2.2.2 (by omega) m2 hV.1, Option.bind_some, if_pos (by rw [m1]; rfl)]
        · have ih' := ih (t + 1) k (by omega) (by omega) (by omega)
          unfold l_X10_firstMove_31
          rw [if_neg (show ¬ (144 : Int32) ≤ nI t from nI_ge (b := 144) (by omega) (by decide)), nI_1]
          by_cases htc : t = c
          · rw [if_pos (by rw [htc])]
            exact ih'
          · rw [if_neg (fun w => htc ((nI_eq (by omega) (by omega)).mp w))]
            rcases beside10 (m := s) hc (show t < 144 by omega) htc with w | ⟨w, k', k1, k2, k3, k4⟩
            · rw [if_pos w.1]
              exact ih'
            · have hlt2 : k' < a := by
                refine dpK_mono k' (by omega) a (by omega) k1 (by omega) ?_
                have := dpT_k k3
                have := dpT_k hV.1
                omega
              have := m3 k' hlt2
              have hbk := byG hO hK.1 hK.2.1 hK.2.2.1 hK.2.2.2.1 hday hf hc hR hK.2.2.2.2 k1 k2 k3
              rw [k4] at hbk
              rw [if_neg w, hbk, Option.bind_some, if_neg (fun w => by
                have := (nI_eq (hbl k') hml).mp w
                omega)]
              exact ih'
    rw [show l_X10_firstMove_31 7000 (nI day) (nI f) (nI c) (nI (dpM (bR I e T to (T - (day + 1)) f c) 8)) 0 s = _ from loop 144 0 7000 (by omega) (by omega) (by omega)]
    rfl
