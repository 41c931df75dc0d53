/-! PURE: apart -/
theorem fd_rows {I J : Nat → Nat → Int32} (h1 : J 81 = I 81) (h2 : J 34 = I 34) (h3 : J 35 = I 35) : fdB J = fdB I ∧ frD J = frD I ∧ enD J = enD I ∧ dgD J = dgD I ∧ aptB J = aptB I := by
  have hc : ∀ k, caA J k = caA I k := fun k => by unfold caA; rw [h2, h3]
  have ha : aptB J = aptB I := by
    funext e c day
    unfold aptB
    rw [hc, hc, hc]
  have hf : fdB J = fdB I := by
    funext e c day
    unfold fdB
    rw [ha, h1]
  refine ⟨hf, ?_, ?_, ?_, ha⟩
  · funext e T c d
    unfold frD
    rw [hf]
  · funext e T to c d
    unfold enD
    rw [hf]
  · funext c
    unfold dgD
    rw [h1]
theorem apart9 {m0 : q_Mm} {e : Int32} {c0 to T F : Nat} (hD : ∀ c, c < 144 → m0.1 33 c = m0.1 81 c ∧ -1 ≤ (m0.1 81 c).toInt ∧ (m0.1 81 c).toInt ≤ 99) (hG : Ge m0.1 e) (hc : c0 < 144) (hto : to < 144) (hT : T ≤ 40) (hF : F ≤ 40) :
    (∃ s1, f_X4_findApart (nI c0) (nI to) (nI T) (nI F) e m0 = some (0, s1) ∧ (∀ q, ¬ q = 89 → ¬ q = 90 → s1.1 q = m0.1 q) ∧ (frD m0.1 e.toInt T c0 T = false ∨ dpC (frD m0.1 e.toInt T) (enD m0.1 e.toInt T to) (dgD m0.1) T F c0 = dpN)) ∨
    (∃ G Id S s1, G + Id = T ∧ f_X4_findApart (nI c0) (nI to) (nI T) (nI F) e m0 = some (1, s1) ∧ ClS m0.1 e G Id c0 to S ∧ Fnd m0.1 e G Id c0 to S s1 ∧ dpR (frD m0.1 e.toInt T) (enD m0.1 e.toInt T to) (dgD m0.1) T F c0 G Id ∧ ¬ cfD m0.1 e (G + Id) to (G + Id) G c0 = dpN) := by
  have hg : ∀ c, dgD m0.1 c ≤ 99 := fun c => dgD_le (fun c hc => (hD c hc).2) c
  have hq : ∀ q, ¬ q = 89 → (q_wi (q_wi (q_wi m0 89 4 (nI c0)) 89 5 (nI to)) 89 8 e).1 q = m0.1 q := fun q h => by rw [r_row h, r_row h, r_row h]
  have hro := fd_rows (hq 81 (by decide)) (hq 34 (by decide)) (hq 35 (by decide))
  obtain ⟨s0, S, e1, e2, e3, e4, e5⟩ := safe_l (I := (q_wi (q_wi (q_wi m0 89 4 (nI c0)) 89 5 (nI to)) 89 8 e).1) (e := e) (to := to) (y3 := nI T) (y4 := nI F) hto rfl rfl (by
    rcases hG with w | ⟨a, b, d, d1, d2, d3, d4⟩
    · exact .inl w
    · exact .inr ⟨a, b, d, d1, by rw [hq 34 (by decide)]; exact d2, by rw [hq 83 (by decide)]; exact d3, by rw [hq 35 (by decide), hq 82 (by decide)]; exact d4⟩) 42 7000 (q_wi (q_wi (q_wi (q_wi m0 89 4 (nI c0)) 89 5 (nI to)) 89 8 e) 89 9 42) (by omega) (by omega) rfl (fun k k1 k2 => by omega)
  rw [hro.2.2.2.2] at e5
  have hs0 : ∀ q, ¬ q = 89 → s0.1 q = m0.1 q := fun q h => by
    rw [← hq q h, e4]
    funext i
    exact if_neg (fun w => h w.1)
  have b4 : s0.1 89 4 = nI c0 := by rw [e4]; rfl
  have b5 : s0.1 89 5 = nI to := by rw [e4]; rfl
  have b8 : s0.1 89 8 = e := by rw [e4]; rfl
  have b9 : s0.1 89 9 = nI S := by rw [e4]; rfl
  have hC1 : ClS m0.1 e T 0 c0 to S := ⟨hG, hD, by omega, hc, hto, e3, e5⟩
  obtain ⟨s1, f1, f2⟩ := search9 hC1 (fun q a _ => hs0 q a) b4 b5 b8 b9
  have hW1 := cfD_W (e := e) (T := T + 0) (to := to) (d := T + 0) (f := T) (c := c0) (ClS_D hC1) (by omega)
  have pre : f_X4_findApart (nI c0) (nI to) (nI T) (nI F) e m0 = (if 536870912 ≤ nI (cvN (cfD m0.1 e (T + 0) to (T + 0) T c0)) then (if 536870912 ≤ nI (cvN (cfD m0.1 e (T + 0) to (T + 0) T c0)) then some ((0 : Int32), s1) else some (1, s1)) else if f_X4_foundFuel s1 ≤ nI F then (if 536870912 ≤ nI (cvN (cfD m0.1 e (T + 0) to (T + 0) T c0)) then some (0, s1) else some (1, s1)) else (f_X4_search (nI F) (nI T - nI F) s1).bind fun r7 => if 536870912 ≤ (r7.1 89 10) then some (0, r7) else some (1, r7)) := by
    unfold f_X4_findApart
    rw [show l_X4_findApart_26 7000 (nI T) (nI F) 41 (q_wi (q_wi (q_wi (q_wi m0 89 4 (nI c0)) 89 5 (nI to)) 89 8 e) 89 9 42) = _ from e1, Option.bind_some, show f_X4_search (nI T) 0 s0 = some s1 from f1, Option.bind_some, f2.2.1]
  have big : ∀ v d f, dpW d f v → d ≤ 60 → ((536870912 : Int32) ≤ nI (cvN v) ↔ v = dpN) := fun v d f h hd => by
    have l := cv_le h hd
    rw [r_le, r_nI (by omega), show (536870912 : Int32).toInt = 536870912 from rfl]
    constructor
    · intro w
      by_cases hn : v = dpN
      · exact hn
      · have := cv_bd h hd hn
        omega
    · intro w
      rw [w, cv_N]
      decide
  by_cases hn : cfD m0.1 e (T + 0) to (T + 0) T c0 = dpN
  · refine .inl ⟨s1, ?_, fun q a b => f2.1.1 q a b, ?_⟩
    · rw [pre, if_pos ((big _ _ _ hW1 (by omega)).mpr hn), if_pos ((big _ _ _ hW1 (by omega)).mpr hn)]
    · rw [Nat.add_zero] at hn
      unfold cfD dpF at hn
      by_cases hf : frD m0.1 e.toInt T c0 T = true
      · rw [if_pos hf] at hn
        right
        rcases Nat.le_total F T with w | w
        · have a := dpC_f (fr := frD m0.1 e.toInt T) (en := enD m0.1 e.toInt T to) hg T (by omega) F T c0 w
          have b := dpW_le (dpC_W (fr := frD m0.1 e.toInt T) (en := enD m0.1 e.toInt T to) hg T (by omega) F c0) (by omega)
          omega
        · rw [dpC_sat T F T c0 w (Nat.le_refl _)]
          exact hn
      · left
        rw [Bool.not_eq_true] at hf
        exact hf
  · have hn2 : ¬ dpC (frD m0.1 e.toInt T) (enD m0.1 e.toInt T to) (dgD m0.1) T T c0 = dpN := by
      have := (dpF_ne hn).2
      intro w
      apply hn
      unfold cfD
      rw [this]
      exact w
    have hfr : frD m0.1 e.toInt T c0 T = true := (dpF_ne hn).1
    have hcf : cfD m0.1 e (T + 0) to (T + 0) T c0 = dpC (frD m0.1 e.toInt T) (enD m0.1 e.toInt T to) (dgD m0.1) T T c0 := (dpF_ne hn).2
    have ff : f_X4_foundFuel s1 = nI (cfD m0.1 e (T + 0) to (T + 0) T c0 % 100) := by
      have hle := cv_le hW1 (by omega)
      unfold f_X4_foundFuel
      rw [f2.2.1, show q_rm (nI (cvN (cfD m0.1 e (T + 0) to (T + 0) T c0))) 64 = nI (cvN (cfD m0.1 e (T + 0) to (T + 0) T c0) % 64) from pk_rem (d := 64) (by omega) (by decide) (by decide), (cv_64 hW1 (by omega) hn).1]
    rw [pre, if_neg (fun w => hn ((big _ _ _ hW1 (by omega)).mp w)), ff]
    by_cases hfu : cfD m0.1 e (T + 0) to (T + 0) T c0 % 100 ≤ F
    · refine .inr ⟨T, 0, S, s1, rfl, ?_, hC1, f2, .inr (.inl ⟨rfl, rfl, by rw [← hcf]; exact hfu⟩), hn⟩
      rw [if_pos (nI_le hfu (by omega)), if_neg (fun w => hn ((big _ _ _ hW1 (by omega)).mp w))]
    · have hFT : F < T := by
        rcases hW1 with w | w
        · exact absurd w hn
        · omega
      have hC2 : ClS m0.1 e F (T - F) c0 to S := ⟨hG, hD, by omega, hc, hto, e3, e5⟩
      obtain ⟨s2, g1, g2⟩ := search9 (s := s1) hC2 f2.1.1 f2.1.2.1 f2.1.2.2.1 f2.1.2.2.2.2.2.1 f2.1.2.2.2.2.2.2
      have hW2 := cfD_W (e := e) (T := F + (T - F)) (to := to) (d := F + (T - F)) (f := F) (c := c0) (ClS_D hC2) (by omega)
      have hFT2 : F + (T - F) = T := by omega
      rw [if_neg (nI_ge (by omega) (by omega)), nI_sub' (by omega) (by omega), g1, Option.bind_some, g2.2.1]
      by_cases hn3 : cfD m0.1 e (F + (T - F)) to (F + (T - F)) F c0 = dpN
      · refine .inl ⟨s2, ?_, fun q a b => g2.1.1 q a b, ?_⟩
        · rw [if_pos ((big _ _ _ hW2 (by omega)).mpr hn3)]
        · right
          unfold cfD dpF at hn3
          rw [hFT2, if_pos hfr] at hn3
          exact hn3
      · refine .inr ⟨F, T - F, S, s2, hFT2, ?_, hC2, g2, .inr (.inr ⟨rfl, hFT2.symm⟩), hn3⟩
        rw [if_neg (fun w => hn3 ((big _ _ _ hW2 (by omega)).mp w))]
theorem ok_apart : q_OK_apart Inv := by
  intro b x1 x2 x3 x4 x5 m hI
  have a9 : ∀ m, f_X9_within x5 0 5 m = 0 ↔ ¬ (0 ≤ x5.toInt ∧ x5.toInt ≤ 5) := fun m => r_within
  have a10 : ∀ m, f_X10_in x5.toInt64 0 5 m = 0 ↔ ¬ (0 ≤ x5.toInt ∧ x5.toInt ≤ 5) := fun m => r_inn
  have hD : ID m := hI.2.2.2.2.2.2.2.1
  have hIR := hI.2.2.2.2.2.2.2.2.2
  have c00 : ((0 : Int32).toNatClampNeg) = 0 := rfl
  by_cases n1 : ¬ (0 ≤ x1.toInt ∧ x1.toInt ≤ 143)
  · refine ⟨-1, m, m, ?_, ?_, hI⟩
    · unfold f_X9_apart; rw [if_pos (cell9i.mpr n1)]
    · unfold f_X10_apart; rw [if_pos (cell10i.mpr n1)]
  have h1 := Classical.not_not.mp n1
  by_cases n2 : ¬ (0 ≤ x2.toInt ∧ x2.toInt ≤ 143)
  · refine ⟨-1, m, m, ?_, ?_, hI⟩
    · unfold f_X9_apart; rw [if_neg (fun w => cell9i.mp w h1), if_pos (cell9i.mpr n2)]
    · unfold f_X10_apart; rw [if_neg (fun w => cell10i.mp w h1), if_pos (cell10i.mpr n2)]
  have h2 := Classical.not_not.mp n2
  by_cases n3 : ¬ ((0 ≤ x3.toInt ∧ x3.toInt ≤ 40) ∧ 0 ≤ x4.toInt ∧ x4.toInt ≤ 40)
  · refine ⟨-2, m, m, ?_, ?_, hI⟩
    · unfold f_X9_apart; rw [if_neg (fun w => cell9i.mp w h1), if_neg (fun w => cell9i.mp w h2), if_pos (voy9.mpr n3)]
    · unfold f_X10_apart; rw [if_neg (fun w => cell10i.mp w h1), if_neg (fun w => cell10i.mp w h2), if_pos (voy10.mpr n3)]
  have h3 := Classical.not_not.mp n3
  by_cases n4 : ¬ (0 ≤ x5.toInt ∧ x5.toInt ≤ 5)
  · refine ⟨-2, m, m, ?_, ?_, hI⟩
    · unfold f_X9_apart; rw [if_neg (fun w => cell9i.mp w h1), if_neg (fun w => cell9i.mp w h2), if_neg (fun w => voy9.mp w h3), if_pos ((a9 m).mpr n4)]
    · unfold f_X10_apart; rw [if_neg (fun w => cell10i.mp w h1), if_neg (fun w => cell10i.mp w h2), if_neg (fun w => voy10.mp w h3), if_pos ((a10 m).mpr n4)]
  have h4 := Classical.not_not.mp n4
  rcases hIR.1 with ⟨z1, z2⟩ | ⟨z1, z2, dd, z3, z4, z5, z6, z7⟩
  · refine ⟨-3, m, m, ?_, ?_, hI⟩
    · unfold f_X9_apart; rw [if_neg (fun w => cell9i.mp w h1), if_neg (fun w => cell9i.mp w h2), if_neg (fun w => voy9.mp w h3), if_neg (fun w => (a9 m).mp w h4), if_pos z1]
    · unfold f_X10_apart; rw [if_neg (fun w => cell10i.mp w h1), if_neg (fun w => cell10i.mp w h2), if_neg (fun w => voy10.mp w h3), if_neg (fun w => (a10 m).mp w h4), c00, if_pos z2]
  have nz1 : ¬ m.1 34 0 = 0 := by rw [z1]; decide
  have nz2 : ¬ m.1 84 0 = 0 := by rw [z2]; decide
  have hPA : PA m.1 := ⟨dd, z3, z4, z5, fun i hi => by
    obtain ⟨q1, q2⟩ := z7 i hi
    rw [show 41 * 0 + i = i by omega] at q1
    exact ⟨q1, q2⟩⟩
  have ne1 : ¬ x5 = -1 := fun w => by
    have := h4.1
    rw [w] at this
    exact absurd this (by decide)
  obtain ⟨c0, hc, rfl⟩ := r_of h1.1 (n := 144) (by omega) (by decide)
  obtain ⟨to, hto, rfl⟩ := r_of h2.1 (n := 144) (by omega) (by decide)
  obtain ⟨T, hT, rfl⟩ := r_of h3.1.1 (n := 41) (by omega) (by decide)
  obtain ⟨F, hF, rfl⟩ := r_of h3.2.1 (n := 41) (by omega) (by decide)
  have pmr : ∀ q, ¬ q = 89 → ¬ q = 90 → ¬ q = 91 → (q_pm b m).1 q = m.1 q := fun q u v w => pm_row u v w
  have g81 := pmr 81 (by decide) (by decide) (by decide)
  have g34 := pmr 34 (by decide) (by decide) (by decide)
  have g35 := pmr 35 (by decide) (by decide) (by decide)
  have hD0 : ∀ c, c < 144 → (q_pm b m).1 33 c = (q_pm b m).1 81 c ∧ -1 ≤ ((q_pm b m).1 81 c).toInt ∧ ((q_pm b m).1 81 c).toInt ≤ 99 := fun c hc => by
    rw [g81, pmr 33 (by decide) (by decide) (by decide)]
    exact hD c hc
  have hGe : ∀ J : Nat → Nat → Int32, J 34 = m.1 34 → J 35 = m.1 35 → J 83 = m.1 83 → J 82 = m.1 82 → Ge J x5 := fun J j1 j2 j3 j4 => by
    refine .inr ⟨h4.1, h4.2, ?_⟩
    unfold PA
    rw [j1, j2, j3, j4]
    exact hPA
  have hg : ∀ c, dgD (q_pm b m).1 c ≤ 99 := fun c => dgD_le (fun c hc => (hD0 c hc).2) c
  have p9 : f_X9_apart b (nI c0) (nI to) (nI T) (nI F) x5 m = ((f_X4_findApart (nI c0) (nI to) (nI T) (nI F) x5 (q_pm b m)).bind fun r1 => if r1.1 = 0 then some (((-5), r1.2)) else (f_X4_write 36 0 0 r1.2).bind fun r3 => some (((f_X4_foundDanger r3), r3))) := by
    unfold f_X9_apart
    rw [if_neg (fun w => cell9i.mp w h1), if_neg (fun w => cell9i.mp w h2), if_neg (fun w => voy9.mp w h3), if_neg (fun w => (a9 m).mp w h4), if_neg nz1]
  have p10 : ∀ s : q_Mm, s.1 84 = m.1 84 → f_X10_apart (nI c0) (nI to) (nI T) (nI F) x5 s = ((f_X10_find 1 (nI c0) (nI to) (nI T) (nI F) 0 (q_wi s 58 42 x5)).bind fun r1 => if r1.1 = 1000000000 then some (((-5), r1.2)) else some ((r1.1 / 10000, r1.2))) := by
    intro s hs
    unfold f_X10_apart
    rw [if_neg (fun w => cell10i.mp w h1), if_neg (fun w => cell10i.mp w h2), if_neg (fun w => voy10.mp w h3), if_neg (fun w => (a10 s).mp w h4), c00, hs, if_neg nz2]
  -- what the reference finds
  have ref : ∀ s : q_Mm, (∀ q, ¬ q = 36 → ¬ q = 37 → ¬ q = 89 → ¬ q = 90 → ¬ q = 91 → s.1 q = m.1 q) → _ := fun s hs =>
    find10 (s := q_wi s 58 42 x5) (e := x5) (T := T) (F := F) (to := to) (c0 := c0) (w := 1) (K := 0) ⟨rfl, hGe _ (by rw [r_row (by decide)]; exact hs 34 (by decide) (by decide) (by decide) (by decide) (by decide)) (by rw [r_row (by decide)]; exact hs 35 (by decide) (by decide) (by decide) (by decide) (by decide)) (by rw [r_row (by decide)]; exact hs 83 (by decide) (by decide) (by decide) (by decide) (by decide)) (by rw [r_row (by decide)]; exact hs 82 (by decide) (by decide) (by decide) (by decide) (by decide)), by omega, by omega, fun c hc => by
      rw [r_row (by decide), hs 81 (by decide) (by decide) (by decide) (by decide) (by decide)]
      exact (hD c hc).2⟩ hto hc (by decide) (by omega) (fun _ => rfl)
  have hrow : ∀ s : q_Mm, (∀ q, ¬ q = 36 → ¬ q = 37 → ¬ q = 89 → ¬ q = 90 → ¬ q = 91 → s.1 q = m.1 q) → fdB (q_wi s 58 42 x5).1 = fdB (q_pm b m).1 ∧ frD (q_wi s 58 42 x5).1 = frD (q_pm b m).1 ∧ enD (q_wi s 58 42 x5).1 = enD (q_pm b m).1 ∧ dgD (q_wi s 58 42 x5).1 = dgD (q_pm b m).1 ∧ aptB (q_wi s 58 42 x5).1 = aptB (q_pm b m).1 := fun s hs =>
    fd_rows (by rw [r_row (by decide), g81]; exact hs 81 (by decide) (by decide) (by decide) (by decide) (by decide)) (by rw [r_row (by decide), g34]; exact hs 34 (by decide) (by decide) (by decide) (by decide) (by decide)) (by rw [r_row (by decide), g35]; exact hs 35 (by decide) (by decide) (by decide) (by decide) (by decide))
  rcases apart9 (e := x5) (T := T) (F := F) hD0 (hGe _ g34 g35 (pmr 83 (by decide) (by decide) (by decide)) (pmr 82 (by decide) (by decide) (by decide))) hc hto (by omega) (by omega) with ⟨s1, b1, b2, b3⟩ | ⟨G, Id, S, s1, rfl, b1, b2, b3, b4, b5⟩
  · have hs1 : ∀ q, ¬ q = 89 → ¬ q = 90 → ¬ q = 91 → s1.1 q = m.1 q := fun q u v w => by rw [b2 q u v, pmr q u v w]
    have hr := (ref s1 (fun q _ _ u v w => hs1 q u v w)).1
    have hro := hrow s1 (fun q _ _ u v w => hs1 q u v w)
    rw [hro.1, hro.2.1, hro.2.2.1, hro.2.2.2.1] at hr
    obtain ⟨s2, c1, c2⟩ := hr (by
      rcases b3 with w | w
      · left
        unfold frD at w
        rw [Nat.sub_self] at w
        exact w
      · exact .inr w)
    refine ⟨-5, s1, s2, ?_, ?_, ?_⟩
    · rw [p9, b1, Option.bind_some, if_pos rfl]
    · rw [p10 s1 (hs1 84 (by decide) (by decide) (by decide)), show f_X10_find 1 (nI c0) (nI to) (nI T) (nI F) 0 (q_wi s1 58 42 x5) = _ from c1, Option.bind_some, if_pos rfl]
    · refine Inv_N (fun q d1 d2 d3 d4 j d5 => ?_) hI
      rw [c2 q d1, r_wi, if_neg d5, hs1 q d2 d3 d4]
  · have hs1 : ∀ q, ¬ q = 89 → ¬ q = 90 → ¬ q = 91 → s1.1 q = m.1 q := fun q u v w => by rw [b3.1.1 q u v, pmr q u v w]
    have hcf : cfD (q_pm b m).1 x5 (G + Id) to (G + Id) G c0 = dpC (frD (q_pm b m).1 x5.toInt (G + Id)) (enD (q_pm b m).1 x5.toInt (G + Id) to) (dgD (q_pm b m).1) (G + Id) G c0 := (dpF_ne b5).2
    have hfr : frD (q_pm b m).1 x5.toInt (G + Id) c0 (G + Id) = true := (dpF_ne b5).1
    have hn1 : ¬ dpC (frD (q_pm b m).1 x5.toInt (G + Id)) (enD (q_pm b m).1 x5.toInt (G + Id) to) (dgD (q_pm b m).1) (G + Id) G c0 = dpN := by rw [← hcf]; exact b5
    have hV := dpR_C hg (by omega) b4 hn1
    have hn2 : ¬ dpC (frD (q_pm b m).1 x5.toInt (G + Id)) (enD (q_pm b m).1 x5.toInt (G + Id) to) (dgD (q_pm b m).1) (G + Id) F c0 = dpN := by rw [hV]; exact hn1
    obtain ⟨L, hL⟩ := rpE_of hc hn2
    have hLT := hL.1
    obtain ⟨s2, w1, w2, w3, w4, w5, w6, w7⟩ := write9 (K := 0) (v := 36) (us := 0) (T := G + Id) (F := F) (L := L) b2 b3 (by omega) hL b4 b5 (by omega) (by decide)
    have hs2 : ∀ q, ¬ q = 36 → ¬ q = 37 → ¬ q = 89 → ¬ q = 90 → ¬ q = 91 → s2.1 q = m.1 q := fun q u0 u1 u v w => by rw [w2 q u0 u1, hs1 q u v w]
    have hr := (ref s2 hs2).2
    have hro := hrow s2 hs2
    rw [hro.1, hro.2.1, hro.2.2.1, hro.2.2.2.1] at hr
    obtain ⟨s4, c1, c2, c3, c4, c5⟩ := hr (by
      have := hfr
      unfold frD at this
      rw [Nat.sub_self] at this
      exact this) hn2 L hL
    rw [hcf, ← hV] at w6
    have hdan := danger9 (s' := s2) b2 b3 b5 (w2 89 (by decide) (by decide))
    rw [hcf, ← hV] at hdan
    have hW := dpC_W (fr := frD (q_pm b m).1 x5.toInt (G + Id)) (en := enD (q_pm b m).1 x5.toInt (G + Id) to) hg (G + Id) (by omega) F c0
    have hle := dpW_le hW (by omega)
    generalize hVV : dpC (frD (q_pm b m).1 x5.toInt (G + Id)) (enD (q_pm b m).1 x5.toInt (G + Id) to) (dgD (q_pm b m).1) (G + Id) F c0 = V at *
    refine ⟨nI (V / 10000), s2, s4, ?_, ?_, ?_⟩
    · rw [p9, b1, Option.bind_some, if_neg (show ¬ (1 : Int32) = 0 by decide)]
      show ((f_X4_write 36 (nI 0) 0 s1).bind _) = _
      rw [w1, Option.bind_some, hdan]
    · rw [p10 s2 (hs2 84 (by decide) (by decide) (by decide) (by decide) (by decide)), show f_X10_find 1 (nI c0) (nI to) (nI (G + Id)) (nI F) 0 (q_wi s2 58 42 x5) = _ from c1, Option.bind_some]
      unfold dpN at *
      rw [if_neg (show ¬ nI V = 1000000000 from fun w => hn2 ((nI_eq (b := 1000000000) (by omega) (by decide)).mp w)), show nI V / 10000 = nI (V / 10000) from pk_div (d := 10000) (by omega) (by decide) (by decide)]
    · have e34 : s4.1 34 = m.1 34 := by
        rw [c2 34 (by decide) (by decide) (by decide) (by decide), r_row (by decide)]
        exact hs2 34 (by decide) (by decide) (by decide) (by decide) (by decide)
      have e35 : s4.1 35 = m.1 35 := by
        rw [c2 35 (by decide) (by decide) (by decide) (by decide), r_row (by decide)]
        exact hs2 35 (by decide) (by decide) (by decide) (by decide) (by decide)
      have e36 : s4.1 36 = s2.1 36 := by
        rw [c2 36 (by decide) (by decide) (by decide) (by decide), r_row (by decide)]
      have e37 : s4.1 37 = s2.1 37 := by
        rw [c2 37 (by decide) (by decide) (by decide) (by decide), r_row (by decide)]
      have e58 : ∀ j, ¬ j = 42 → s4.1 58 j = m.1 58 j := fun j hj => by
        rw [c2 58 (by decide) (by decide) (by decide) (by decide), r_wi, if_neg (fun w => hj w.2), hs2 58 (by decide) (by decide) (by decide) (by decide) (by decide)]
      rw [r_row (by decide), hs2 82 (by decide) (by decide) (by decide) (by decide) (by decide)] at c3
      rw [r_row (by decide), hs2 83 (by decide) (by decide) (by decide) (by decide) (by decide)] at c4
      rw [r_row (by decide), hs2 84 (by decide) (by decide) (by decide) (by decide) (by decide)] at c5
      have hpm := rp_fin (K := 0) hg (show G + Id ≤ 40 by omega) hL (p := s2.1 37) (fun n hn => by
        rw [w3 (0 + n), if_pos ⟨by omega, by omega⟩, show 0 + n - 0 = n by omega])
      rw [hVV] at hpm
      refine Inv_R (fun q j hq => ?_) hI ⟨.inr ⟨by rw [e34]; exact z1, by rw [c5, if_neg (by decide)]; exact z2, dd, z3, by rw [e34]; exact z4, by rw [c4, if_neg (by decide)]; exact z5, by rw [e34, e35]; exact z6, fun i hi => ?_⟩, .inr ⟨?_, ?_, L, by omega, ?_, ?_, ?_, fun i hi => ⟨?_, ?_⟩⟩, fun hh => ?_⟩
      · have n1 : ¬ q = 36 := by rintro rfl; cases hq
        have n2 : ¬ q = 37 := by rintro rfl; cases hq
        have n3 : ¬ q = 82 := by rintro rfl; cases hq
        have n4 : ¬ q = 83 := by rintro rfl; cases hq
        have n5 : ¬ q = 84 := by rintro rfl; cases hq
        have n6 : ¬ q = 85 := by rintro rfl; cases hq
        have n7 : ¬ q = 89 := by rintro rfl; cases hq
        have n8 : ¬ q = 90 := by rintro rfl; cases hq
        have n9 : ¬ q = 91 := by rintro rfl; cases hq
        have t3 : ¬ (q = 58 ∧ j = 42) := by rintro ⟨rfl, rfl⟩; cases hq
        rw [c2 q n3 n4 n5 n6, r_wi, if_neg t3, hs2 q n1 n2 n7 n8 n9]
      · rw [e35, c3, if_neg (by omega)]
        exact z7 i hi
      · rw [e36]; exact w4
      · rw [c5, if_pos rfl]
      · rw [e36, w5, Nat.zero_add]
      · rw [c4, if_pos rfl, Nat.zero_add]
      · rw [e36, e37, w6]
        rw [Nat.zero_add] at hpm
        rw [hpm]
        show (0 : Int32) + _ = nI (0 + _)
        rw [Nat.zero_add, Int32.zero_add]
      · rw [e37, c3, w3 i, if_pos ⟨by omega, by omega⟩, if_pos ⟨by omega, by omega⟩, show 41 * 1 + i - (41 * 1 + 0) = i - 0 by omega]
      · rw [e37, w3 i, if_pos ⟨by omega, by omega⟩]
        exact ⟨_, (hL.2.2.2 (i - 0) (by omega)).2.1, rfl⟩
      · rw [e34] at hh ⊢
        rw [e35, e58 40 (by decide), e58 41 (by decide)]
        exact hIR.2.2 hh
