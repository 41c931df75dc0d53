/-! PURE: routes: alone -/
theorem pm_row {b : Bool} {m : q_Mm} {q : Nat} (h1 : ¬ q = 89) (h2 : ¬ q = 90) (h3 : ¬ q = 91) : (q_pm b m).1 q = m.1 q := by
  cases b with
  | true => rfl
  | false =>
    funext j
    simp only [q_pm, q_pm0, q_pS, cS_X4, q_nx, q_pr, q_pi, q_pl, q_up, q_mk, h1, h2, h3, if_false, false_and]
def frA (R : Nat → Int32) : Nat → Nat → Bool := fun c _ => decide (0 ≤ (R c).toInt)
def enA (R : Nat → Int32) (to : Nat) : Nat → Nat → Bool := fun c _ => decide (c = to) && decide (0 ≤ (R c).toInt)
def dgA (R : Nat → Int32) (c : Nat) : Nat := if c < 144 then (R c).toInt.toNat else 0
theorem dgD_A {J : Nat → Nat → Int32} : dgD J = dgA (J 81) := rfl
theorem apt_A {J : Nat → Nat → Int32} {e : Int} (he : e < 0) (c day : Nat) : aptB J e c day = true := by
  unfold aptB
  rw [decide_eq_true he]
  rfl
theorem fd_A {J : Nat → Nat → Int32} {e : Int} (he : e < 0) (c day : Nat) : fdB J e c day = decide (0 ≤ (J 81 c).toInt) := by
  unfold fdB
  rw [apt_A he, Bool.and_true]
theorem fr_A {J : Nat → Nat → Int32} {e : Int} {T : Nat} (he : e < 0) : frD J e T = frA (J 81) := by
  funext c d
  exact fd_A he c _
theorem en_A {J : Nat → Nat → Int32} {e : Int} {T to : Nat} (he : e < 0) (hT : T ≤ 40) : enD J e T to = enA (J 81) to := by
  funext c d
  unfold enD enA
  congr 1
  by_cases h : 0 ≤ (J 81 c).toInt
  · rw [decide_eq_true h, alB_iff (by omega)]
    intro k _ _
    rw [fd_A he, decide_eq_true h]
  · rw [decide_eq_false h, alB_s (by omega), fd_A he, decide_eq_false h]
    rfl
theorem dpL_A {R : Nat → Int32} {to : Nat} : dpL (frA R) (enA R to) := ⟨fun _ _ _ => rfl, fun _ _ _ => rfl⟩
theorem min9 {T F : Nat} (hT : T ≤ 40) (hF : F ≤ 40) : q_min (nI T) (nI F) = nI (min T F) := by
  rw [r_eq, q_min_i, r_nI (by omega), r_nI (by omega), r_nI (by omega)]
  omega
theorem m1i : (-1 : Int32).toInt < 0 := by decide
/-- the class's search alone -/
theorem alone9 {m0 : q_Mm} {c0 to T F : Nat} (hD : ∀ c, c < 144 → m0.1 33 c = m0.1 81 c ∧ -1 ≤ (m0.1 81 c).toInt ∧ (m0.1 81 c).toInt ≤ 99) (hc : c0 < 144) (hto : to < 144) (hT : T ≤ 40) (hF : F ≤ 40) : ClS m0.1 (-1) (min T F) 0 c0 to 0 ∧ ∃ s1, f_X4_findAlone (nI c0) (nI to) (nI T) (nI F) m0 = some (if cfD m0.1 (-1) (min T F + 0) to (min T F + 0) (min T F) c0 = dpN then 0 else 1, s1) ∧ Fnd m0.1 (-1) (min T F) 0 c0 to 0 s1 := by
  have hC : ClS m0.1 (-1) (min T F) 0 c0 to 0 := ⟨.inl rfl, hD, by omega, hc, hto, by omega, fun day _ => ⟨fun _ k _ _ => apt_A m1i _ _, fun _ => by omega⟩⟩
  refine ⟨hC, ?_⟩
  obtain ⟨s1, e1, e2⟩ := search9 (s := q_wi (q_wi (q_wi (q_wi m0 89 4 (nI c0)) 89 5 (nI to)) 89 8 (-1)) 89 9 0) hC (fun q a b => by rw [r_row a, r_row a, r_row a, r_row a]) rfl rfl rfl rfl
  refine ⟨s1, ?_, e2⟩
  have hW := cfD_W (e := -1) (T := min T F + 0) (to := to) (d := min T F + 0) (f := min T F) (c := c0) (ClS_D hC) (by omega)
  unfold f_X4_findAlone
  rw [min9 hT hF, show (0 : Int32) = nI 0 from rfl, show nI 0 = (0 : Int32) from rfl, show f_X4_search (nI (min T F)) 0 (q_wi (q_wi (q_wi (q_wi m0 89 4 (nI c0)) 89 5 (nI to)) 89 8 (-1)) 89 9 0) = some s1 from e1, Option.bind_some, e2.2.1]
  by_cases hn : cfD m0.1 (-1) (min T F + 0) to (min T F + 0) (min T F) c0 = dpN
  · rw [hn, cv_N, if_pos (by decide), if_pos rfl]
  · have hb := cv_bd hW (by omega) hn
    rw [if_neg hn, if_neg (show ¬ (536870912 : Int32) ≤ nI (cvN (cfD m0.1 (-1) (min T F + 0) to (min T F + 0) (min T F) c0)) by
      rw [r_le, r_nI (by omega)]
      show ¬ (536870912 : Int) ≤ _
      omega)]
/-- and what the reference finds -/
def Kal (R : Nat → Int32) (to T F c0 : Nat) : Nat := dpC (frA R) (enA R to) (dgA R) T F c0
theorem al_eq {R : Nat → Int32} {to T F c0 : Nat} (hg : ∀ c, dgA R c ≤ 99) (hT : T ≤ 40) (hF : F ≤ 40) : dpR (frA R) (enA R to) (dgA R) T F c0 (min T F) 0 ∧ dpC (frA R) (enA R to) (dgA R) (min T F + 0) (min T F) c0 = Kal R to T F c0 := by
  unfold Kal
  rcases Nat.le_total F T with w | w
  · rw [Nat.min_eq_right w]
    obtain ⟨k, rfl⟩ : ∃ k, T = F + k := ⟨T - F, by omega⟩
    exact ⟨.inl ⟨dpL_A, rfl, rfl, w⟩, (dpC_al' hg dpL_A k (by omega)).symm⟩
  · rw [Nat.min_eq_left w]
    refine ⟨.inr (.inl ⟨rfl, rfl, ?_⟩), dpC_sat T T F c0 (Nat.le_refl _) w⟩
    rcases dpC_W (fr := frA R) (en := enA R to) hg T (by omega) T c0 with h | h
    · rw [h]; show 0 ≤ F; omega
    · omega
theorem ref_al {s3 : q_Mm} {R : Nat → Int32} {to T F c0 K : Nat} (hR : s3.1 81 = R) (hD : ∀ c, c < 144 → -1 ≤ (R c).toInt ∧ (R c).toInt ≤ 99) (hc : c0 < 144) (hto : to < 144) (hT : T ≤ 40) (hF : F ≤ 40) (hKT : K + T ≤ 40) :
    ((¬ 0 ≤ (R c0).toInt ∨ Kal R to T F c0 = dpN) → ∃ s', f_X10_find 0 (nI c0) (nI to) (nI T) (nI F) (nI K) (q_wi s3 58 42 (-1)) = some (1000000000, s') ∧ ∀ q, ¬ q = 85 → s'.1 q = (q_wi s3 58 42 (-1)).1 q) ∧
    (0 ≤ (R c0).toInt → ¬ Kal R to T F c0 = dpN → ∀ L, rpE (frA R) (enA R to) (dgA R) T F c0 L → ∃ s', f_X10_find 0 (nI c0) (nI to) (nI T) (nI F) (nI K) (q_wi s3 58 42 (-1)) = some (nI (Kal R to T F c0), s') ∧ (∀ q, ¬ q = 82 → ¬ q = 83 → ¬ q = 84 → ¬ q = 85 → s'.1 q = (q_wi s3 58 42 (-1)).1 q) ∧ (∀ j, s'.1 82 j = if K ≤ j ∧ j ≤ K + L then nI (rpP (frA R) (enA R to) (dgA R) T F c0 (j - K)).2 else s3.1 82 j) ∧ (∀ j, s'.1 83 j = if j = 0 then nI (K + L) else s3.1 83 j) ∧ ∀ j, s'.1 84 j = if j = 0 then 1 else s3.1 84 j) := by
  have h81 : (q_wi s3 58 42 (-1)).1 81 = R := by rw [r_row (by decide)]; exact hR
  have h := find10 (s := q_wi s3 58 42 (-1)) (e := -1) (T := T) (F := F) (to := to) (c0 := c0) (w := 0) (K := K) ⟨rfl, .inl rfl, hT, hF, fun c hc => by rw [h81]; exact hD c hc⟩ hto hc (by decide) hKT (fun w => absurd rfl w)
  rw [fr_A m1i, en_A m1i hT, dgD_A, h81, fd_A m1i, h81] at h
  rw [show 41 * 0 + K = K by omega, r_row (show ¬ 82 = 58 by decide), r_row (show ¬ 83 = 58 by decide), r_row (show ¬ 84 = 58 by decide)] at h
  refine ⟨fun w => h.1 ?_, fun a b L hL => h.2 (decide_eq_true a) b L hL⟩
  rcases w with w | w
  · exact .inl (decide_eq_false w)
  · exact .inr w
theorem danger9 {I : Nat → Nat → Int32} {e : Int32} {G Id fm to S : Nat} {s s' : q_Mm} (hC : ClS I e G Id fm to S) (hF : Fnd I e G Id fm to S s) (hn : ¬ cfD I e (G + Id) to (G + Id) G fm = dpN) (h : s'.1 89 = s.1 89) : f_X4_foundDanger s' = nI (cfD I e (G + Id) to (G + Id) G fm / 10000) := by
  have hGI := hC.2.2.1
  have hW := cfD_W (e := e) (T := G + Id) (to := to) (d := G + Id) (f := G) (c := fm) (ClS_D hC) (by omega)
  have hle := cv_le hW (by omega)
  unfold f_X4_foundDanger
  rw [h, hF.2.1, show nI (cvN (cfD I e (G + Id) to (G + Id) G fm)) / 4096 = nI (cvN (cfD I e (G + Id) to (G + Id) G fm) / 4096) from pk_div (d := 4096) (by omega) (by decide) (by decide), (cv_64 hW (by omega) hn).2]
