/-! PURE: routes: the class writes its way -/
def cpQ (fr en : Nat → Nat → Bool) (dg : Nat → Nat) (G Id c0 n : Nat) : Prop := (cpP fr en dg G Id c0 n).1 ≤ G ∧ (cpP fr en dg G Id c0 n).2.1 ≤ Id ∧ (cpP fr en dg G Id c0 n).2.2 < 144 ∧ fr (cpP fr en dg G Id c0 n).2.2 ((cpP fr en dg G Id c0 n).1 + (cpP fr en dg G Id c0 n).2.1) = true ∧ ¬ dpC fr en dg ((cpP fr en dg G Id c0 n).1 + (cpP fr en dg G Id c0 n).2.1) (cpP fr en dg G Id c0 n).1 (cpP fr en dg G Id c0 n).2.2 = dpN ∧ inW c0 (G - (cpP fr en dg G Id c0 n).1) (cpP fr en dg G Id c0 n).2.2
theorem cpQ_s {fr en : Nat → Nat → Bool} {dg : Nat → Nat} {G Id c0 n : Nat} (h : cpQ fr en dg G Id c0 n) (he : en (cpP fr en dg G Id c0 n).2.2 ((cpP fr en dg G Id c0 n).1 + (cpP fr en dg G Id c0 n).2.1) = false) : cpQ fr en dg G Id c0 (n + 1) := by
  unfold cpQ at *
  rw [cpP_s, cpS_1, cpS_2, cpS_3]
  generalize cpP fr en dg G Id c0 n = z at *
  obtain ⟨g, i, c⟩ := z
  dsimp only at *
  obtain ⟨h1, h2, h3, h4, h5, h6⟩ := h
  have h0 : g + i ≠ 0 := fun w => by
    rw [w] at h5 he
    exact h5 (dpC_0 he)
  obtain ⟨d, hd⟩ : ∃ d, g + i = d + 1 := ⟨g + i - 1, by omega⟩
  rw [hd] at h4 h5 he
  rw [show g + i - 1 = d by omega]
  obtain ⟨a1, a2, a3, a4, a5⟩ := dpStep he h5 rfl
  generalize dpG fr en dg d g c = m at *
  by_cases hm : m = 0
  · subst hm
    rw [dpT_0] at *
    rw [if_pos rfl] at a4
    by_cases hi : 0 < i
    · rw [if_pos ⟨rfl, hi⟩, if_pos ⟨rfl, hi⟩, show g + (i - 1) = d by omega]
      exact ⟨h1, by omega, h3, a2, a4, h6⟩
    · rw [if_neg (fun w => hi w.2), if_neg (fun w => hi w.2), show g - 1 + i = d by omega, show g - 1 = d by omega, dpC_sat d d g c (Nat.le_refl _) (by omega)]
      exact ⟨by omega, h2, h3, a2, a4, by unfold inW at *; omega⟩
  · rw [if_neg hm] at a4
    have hV := a3 hm
    have hT := dpT_xy hV.1
    have := dpX_in m
    have := dpY_in m
    rw [if_neg (fun w => hm w.1), if_neg (fun w => hm w.1), show g - 1 + i = d by omega]
    exact ⟨by omega, h2, hT.2.2, a2, a4, by unfold inW at *; omega⟩
theorem cp_all {fr en : Nat → Nat → Bool} {dg : Nat → Nat} (hg : ∀ c, dg c ≤ 99) {T F c0 G Id L : Nat} (hT : T ≤ 40) (hc : c0 < 144) (hL : rpE fr en dg T F c0 L) (hR : dpR fr en dg T F c0 G Id) (hn : ¬ dpC fr en dg (G + Id) G c0 = dpN) (hf : fr c0 (G + Id) = true) : ∀ n, n ≤ L → cpQ fr en dg G Id c0 n ∧ (cpP fr en dg G Id c0 n).2.2 = (rpP fr en dg T F c0 n).2 ∧ (n < L → en (cpP fr en dg G Id c0 n).2.2 ((cpP fr en dg G Id c0 n).1 + (cpP fr en dg G Id c0 n).2.1) = false) ∧ (n = L → en (cpP fr en dg G Id c0 n).2.2 ((cpP fr en dg G Id c0 n).1 + (cpP fr en dg G Id c0 n).2.1) = true) := by
  have key := cp_rp hg hT hL hR hn
  have hen : ∀ n, n ≤ L → en (cpP fr en dg G Id c0 n).2.2 ((cpP fr en dg G Id c0 n).1 + (cpP fr en dg G Id c0 n).2.1) = en (rpP fr en dg T F c0 n).2 (T - n) := fun n h => by
    obtain ⟨a, b, _⟩ := key n h
    rw [dpR_e a, b]
  intro n
  induction n with
  | zero =>
    intro h
    refine ⟨⟨Nat.le_refl _, Nat.le_refl _, hc, hf, hn, ?_⟩, (key 0 h).2.1, fun w => ?_, fun w => ?_⟩
    · show inW c0 (G - G) c0
      unfold inW
      omega
    · rw [hen 0 h]; exact hL.2.1 0 w
    · rw [hen 0 h, w]; exact hL.2.2.1
  | succ n ih =>
    intro h
    obtain ⟨i1, i2, i3, i4⟩ := ih (by omega)
    refine ⟨cpQ_s i1 (i3 (by omega)), (key (n + 1) h).2.1, fun w => ?_, fun w => ?_⟩
    · rw [hen (n + 1) h]; exact hL.2.1 _ w
    · rw [hen (n + 1) h, w]; exact hL.2.2.1
theorem cv_64 {d f v : Nat} (h : dpW d f v) (hd : d ≤ 60) (hn : ¬ v = dpN) : cvN v % 64 = v % 100 ∧ cvN v / 4096 = v / 10000 := by
  have hb := cv_bd h hd hn
  rw [hb.1]
  rcases h with h | h
  · exact absurd h hn
  · omega
theorem min8 : ∀ m, m < 9 → q_min (nI m) (9 - 1) = nI m := by decide +kernel
theorem next9 {c m : Nat} (hc : c < 144) (hm : m ≤ 8) (hv : dpV c m) : nI c + (12 * q_sv 3 m + q_sv 2 m) = nI (dpT c m) := by
  have h1 := dpX_in m
  have h2 := dpY_in m
  have hk := dpT_k hv
  have ht := (dpT_xy hv).2.2
  unfold dpK at hk
  have e12 : (12 * q_sv 3 m).toInt = 12 * dpY m := by
    rw [Int32.toInt_mul, sv3 m (by omega), show (12 : Int32).toInt = 12 from rfl, Int.bmod_eq_of_le (by omega) (by omega)]
  have e13 : (12 * q_sv 3 m + q_sv 2 m).toInt = 12 * dpY m + dpX m := by
    rw [Int32.toInt_add, e12, sv2 m (by omega), Int.bmod_eq_of_le (by omega) (by omega)]
  rw [r_eq, Int32.toInt_add, e13, r_nI (by omega), r_nI (by omega), Int.bmod_eq_of_le (by omega) (by omega)]
  omega
theorem dpV_0 {c : Nat} (hc : c < 144) : dpV c 0 := by
  refine ⟨?_, ?_, ?_, ?_⟩
  · show 0 ≤ _ + (0 : Int); omega
  · show _ + (0 : Int) ≤ 11; omega
  · show 0 ≤ _ + (0 : Int); omega
  · show _ + (0 : Int) ≤ 11; omega
theorem write9 {I : Nat → Nat → Int32} {e : Int32} {G Id fm to S T F L K v : Nat} {s : q_Mm} {us : Int32} (hC : ClS I e G Id fm to S) (hF : Fnd I e G Id fm to S s) (hT : T ≤ 40) (hL : rpE (frD I e.toInt (G + Id)) (enD I e.toInt (G + Id) to) (dgD I) T F fm L) (hR : dpR (frD I e.toInt (G + Id)) (enD I e.toInt (G + Id) to) (dgD I) T F fm G Id) (hn : ¬ cfD I e (G + Id) to (G + Id) G fm = dpN) (hK : K + L ≤ 40) (hv : v < 80) :
    ∃ s', f_X4_write v (nI K) us s = some s' ∧ (∀ q, ¬ q = v → ¬ q = v + 1 → s'.1 q = s.1 q) ∧ (∀ j, s'.1 (v + 1) j = if K ≤ j ∧ j ≤ K + L then nI (rpP (frD I e.toInt (G + Id)) (enD I e.toInt (G + Id) to) (dgD I) T F fm (j - K)).2 else s.1 (v + 1) j) ∧ s'.1 v 0 = 1 ∧ s'.1 v 2 = nI (K + L) ∧ s'.1 v 3 = us + nI (cfD I e (G + Id) to (G + Id) G fm % 100) ∧ ∀ j, ¬ j = 0 → ¬ j = 2 → ¬ j = 3 → s'.1 v j = s.1 v j := by
  have hGI := hC.2.2.1
  have hfm := hC.2.2.2.1
  have hf := (dpF_ne hn).1
  have hn' : ¬ dpC (frD I e.toInt (G + Id)) (enD I e.toInt (G + Id) to) (dgD I) (G + Id) G fm = dpN := by rw [← (dpF_ne hn).2]; exact hn
  have hall := cp_all (dgD_le (ClS_D hC)) hT hfm hL hR hn' hf
  have hM := hF.1
  obtain ⟨⟨x, y, z, s'⟩, e1, e2, e3, e4, e5, e6, e7, e8⟩ := qlp7 (fun k n (z : Int32 × Int32 × Int32 × q_Mm) => l_X4_write_30 k v us z.1 z.2.1 z.2.2.1 (nI (K + n)) z.2.2.2) L 0 (nI fm, nI G, nI Id, q_wi s (v + 1) K (nI fm)) (fun n z => z.1 = nI (cpP (frD I e.toInt (G + Id)) (enD I e.toInt (G + Id) to) (dgD I) G Id fm n).2.2 ∧ z.2.1 = nI (cpP (frD I e.toInt (G + Id)) (enD I e.toInt (G + Id) to) (dgD I) G Id fm n).1 ∧ z.2.2.1 = nI (cpP (frD I e.toInt (G + Id)) (enD I e.toInt (G + Id) to) (dgD I) G Id fm n).2.1 ∧ z.2.2.2.2 = s.2 ∧ (∀ q, ¬ q = v + 1 → z.2.2.2.1 q = s.1 q) ∧ True ∧ ∀ j, z.2.2.2.1 (v + 1) j = if K ≤ j ∧ j ≤ K + n then nI (rpP (frD I e.toInt (G + Id)) (enD I e.toInt (G + Id) to) (dgD I) T F fm (j - K)).2 else s.1 (v + 1) j) (fun z => (nI (K + L), z.2.2.2)) (by omega) (by omega)
    ⟨rfl, rfl, rfl, rfl, fun q hq => by rw [r_row hq], trivial, fun j => by
      show (q_wi s (v + 1) K (nI fm)).1 (v + 1) j = _
      rw [r_wi]
      by_cases hj : j = K
      · rw [if_pos ⟨rfl, hj⟩, if_pos ⟨by omega, by omega⟩, hj, Nat.sub_self]
        rfl
      · rw [if_neg (fun w => hj w.2), if_neg (fun w => hj (by omega))]⟩
    (fun k z h => by
      obtain ⟨x, y, i, u⟩ := z
      obtain ⟨h1, h2, h3, h4, h5, _, h6⟩ := h
      dsimp only at h1 h2 h3 h4 h5 h6 ⊢
      obtain ⟨⟨q1, q2, q3, q4, q5, q6⟩, q7, q8, q9⟩ := hall L (Nat.le_refl _)
      have hen := q9 rfl
      unfold l_X4_write_30
      rw [h1, h2, h3]
      generalize cpP (frD I e.toInt (G + Id)) (enD I e.toInt (G + Id) to) (dgD I) G Id fm L = p at *
      obtain ⟨g, i', c⟩ := p
      dsimp only at *
      have hdE : f_X4_endsAt (nI c) (f_X4_dayOf (nI g) (nI i') u) u = 1 := by
        have a1 : f_X4_dayOf (nI g) (nI i') u = f_X4_dayOf (nI g) (nI i') s := by unfold f_X4_dayOf; rw [h5 89 (by omega)]
        have a2 : ∀ a b, f_X4_endsAt a b u = f_X4_endsAt a b s := fun a b => by unfold f_X4_endsAt; rw [h5 89 (by omega)]
        rw [a1, a2, day9 hC hM q1 q2, ends9 hC hM q3 (by omega) q4, if_pos hen]
      rw [hdE, if_neg (show ¬ (1 : Int32) = 0 by decide)]
      split
      · rfl
      · split <;> rfl)
    (fun k n z hn h => by
      obtain ⟨x, y, i, u⟩ := z
      obtain ⟨h1, h2, h3, h4, h5, _, h6⟩ := h
      dsimp only at h1 h2 h3 h4 h5 h6 ⊢
      obtain ⟨⟨q1, q2, q3, q4, q5, q6⟩, q7, q8, q9⟩ := hall n (by omega)
      obtain ⟨_, q10, _⟩ := hall (n + 1) (by omega)
      have hen := q8 hn
      refine ⟨(nI (cpP (frD I e.toInt (G + Id)) (enD I e.toInt (G + Id) to) (dgD I) G Id fm (n + 1)).2.2, nI (cpP (frD I e.toInt (G + Id)) (enD I e.toInt (G + Id) to) (dgD I) G Id fm (n + 1)).1, nI (cpP (frD I e.toInt (G + Id)) (enD I e.toInt (G + Id) to) (dgD I) G Id fm (n + 1)).2.1, q_wi u (v + 1) (K + n + 1) (nI (cpP (frD I e.toInt (G + Id)) (enD I e.toInt (G + Id) to) (dgD I) G Id fm (n + 1)).2.2)), ?_, rfl, rfl, rfl, h4, ?_, trivial, ?_⟩
      · show l_X4_write_30 (k + 1) _ _ _ _ _ _ _ = l_X4_write_30 k _ _ _ _ _ _ _
        rw [cpP_s, cpS_1, cpS_2, cpS_3]
        conv => lhs; unfold l_X4_write_30
        rw [h1, h2, h3]
        generalize cpP (frD I e.toInt (G + Id)) (enD I e.toInt (G + Id) to) (dgD I) G Id fm n = p at *
        obtain ⟨g, i', c⟩ := p
        dsimp only at *
        have a1 : f_X4_dayOf (nI g) (nI i') u = f_X4_dayOf (nI g) (nI i') s := by unfold f_X4_dayOf; rw [h5 89 (by omega)]
        have a2 : ∀ a b, f_X4_endsAt a b u = f_X4_endsAt a b s := fun a b => by unfold f_X4_endsAt; rw [h5 89 (by omega)]
        have h0 : ¬ g + i' = 0 := fun w => by
          rw [w] at q5 hen
          exact q5 (dpC_0 hen)
        have hin : inW to g c := by
          by_cases w : inW to g c
          · exact w
          · exact absurd (show dpC (frD I e.toInt (G + Id)) (enD I e.toInt (G + Id) to) (dgD I) (g + i') g c = dpN by
              have := cfD_far (I := I) (e := e) (T := G + Id) (d := g + i') w
              unfold cfD dpF at this
              rw [if_pos q4] at this
              exact this) q5
        have hkp : f_X4_keptMove (nI g) (nI i') (nI c) u = some (nI (gD I e (G + Id) to (g + i' - 1) g c)) := by
          rw [kept9 (G := G) (s := u) (by rw [h5 89 (by omega)]; exact hM.2.2.2.1) (by omega) (by omega) q1 q3]
          have : kpS u G g i' c = kpS s G g i' c := by unfold kpS; rw [h4]
          rw [this, hF.2.2 g i' c q1 q2 q3 q6 hin q4 hen (by omega)]
        obtain ⟨d, hd⟩ : ∃ d, g + i' = d + 1 := ⟨g + i' - 1, by omega⟩
        have hen2 := hen
        have q52 := q5
        rw [hd] at hen2 q52
        obtain ⟨b1, b2, b3, b4, b5⟩ := dpStep hen2 q52 rfl
        rw [show g + i' - 1 = d by omega] at hkp ⊢
        rw [if_neg (show ¬ (40 : Int32) ≤ nI (K + n) from nI_ge (b := 40) (by omega) (by decide)), nI_add, if_neg (show ¬ nI (g + i') ≤ 0 from fun w => h0 ((nI_le0 (by omega)).mp w)), a1, a2, day9 hC hM q1 q2, ends9 hC hM q3 (by omega) q4, if_neg (show ¬ enD I e.toInt (G + Id) to c (g + i') = true by rw [hen]; decide), if_pos (show (0 : Int32) = 0 from rfl), hkp, Option.bind_some]
        show (if q_min (nI (dpG _ _ _ d g c)) (9 - 1) = 0 then _ else _) = _
        generalize hmm : dpG (frD I e.toInt (G + Id)) (enD I e.toInt (G + Id) to) (dgD I) d g c = m at *
        have hgd : gD I e (G + Id) to d g c = m := hmm
        rw [hgd, min8 m (by omega), r_cl (by omega), nI_1, if_pos (r_in (show m < 9 by omega) (by decide)), if_pos (r_in (show m < 9 by omega) (by decide)), if_pos (r_in (show K + n + 1 < 41 by omega) (by decide)), r_cl (by omega)]
        by_cases hm : m = 0
        · subst hm
          rw [if_pos (show nI 0 = 0 from rfl), next9 q3 (by decide) (dpV_0 q3)]
          by_cases hi : 0 < i'
          · rw [if_neg (show ¬ nI i' ≤ 0 from fun w => by have := (nI_le0 (by omega)).mp w; omega), if_pos (r_in (show 0 < 9 by omega) (by decide)), if_pos (r_in (show 0 < 9 by omega) (by decide)), if_pos (r_in (show K + n + 1 < 41 by omega) (by decide)), if_pos ⟨rfl, hi⟩, if_pos ⟨rfl, hi⟩, nI_p1 hi]
            rfl
          · rw [if_pos (show nI i' ≤ 0 from (nI_le0 (by omega)).mpr (by omega)), if_neg (fun w => hi w.2), if_neg (fun w => hi w.2), nI_p1 (by omega)]
            rfl
        · rw [if_neg (show ¬ nI m = 0 from fun w => hm ((nI_eq (b := 0) (by omega) (by decide)).mp w)), next9 q3 b1 (b3 hm).1, if_neg (fun w => hm w.1), if_neg (fun w => hm w.1), nI_p1 (by have := (b3 hm).2; omega)]
          rfl
      · intro q hq
        dsimp only
        rw [r_row hq]
        exact h5 q hq
      · intro j
        dsimp only
        rw [r_wi]
        by_cases hj : j = K + n + 1
        · rw [if_pos ⟨rfl, hj⟩, if_pos ⟨by omega, by omega⟩, hj, show K + n + 1 - K = n + 1 by omega, q10]
        · rw [if_neg (fun v => hj v.2), h6 j]
          by_cases hj2 : K ≤ j ∧ j ≤ K + n
          · rw [if_pos hj2, if_pos ⟨by omega, by omega⟩]
          · rw [if_neg hj2, if_neg (fun v => hj2 (by omega))])
  dsimp only at e1 e2 e3 e4 e5 e6 e7 e8
  have hW := cfD_W (e := e) (T := G + Id) (to := to) (d := G + Id) (f := G) (c := fm) (ClS_D hC) (by omega)
  have hle := cv_le hW (by omega)
  refine ⟨q_wi (q_wi (q_wi s' v 2 (nI (K + L))) v 3 (us + nI (cfD I e (G + Id) to (G + Id) G fm % 100))) v 0 1, ?_, fun q a b => by rw [r_row a, r_row a, r_row a]; exact e6 q b, fun j => ?_, ?_, ?_, ?_, fun j a b c => ?_⟩
  · unfold f_X4_write
    rw [if_pos (r_in (show K < 41 by omega) (by decide)), r_cl (by omega), hM.2.1, hM.2.2.2.1, hM.2.2.2.2.1, show l_X4_write_30 7000 v us (nI fm) (nI G) (nI Id) (nI K) (q_wi s (v + 1) K (nI fm)) = _ from e1, Option.bind_some]
    have ff : f_X4_foundFuel (q_wi s' v 2 (nI (K + L))) = nI (cfD I e (G + Id) to (G + Id) G fm % 100) := by
      unfold f_X4_foundFuel
      rw [r_row (by omega), e6 89 (by omega), hF.2.1, show q_rm (nI (cvN (cfD I e (G + Id) to (G + Id) G fm))) 64 = nI (cvN (cfD I e (G + Id) to (G + Id) G fm) % 64) from pk_rem (d := 64) (by omega) (by decide) (by decide), (cv_64 hW (by omega) hn).1]
    dsimp only
    rw [ff]
  · rw [r_row (by omega), r_row (by omega), r_row (by omega)]
    exact e8 j
  · rw [r_wi, if_pos ⟨rfl, rfl⟩]
  · rw [r_wi, if_neg (by omega), r_wi, if_neg (by omega), r_wi, if_pos ⟨rfl, rfl⟩]
  · rw [r_wi, if_neg (by omega), r_wi, if_pos ⟨rfl, rfl⟩]
  · rw [r_wi, if_neg (by omega), r_wi, if_neg (by omega), r_wi, if_neg (by omega)]
    exact congrFun (e6 v (by omega)) j
