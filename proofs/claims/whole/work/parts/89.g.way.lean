/-! PURE: routes: the way -/
def rpS (fr en : Nat → Nat → Bool) (dg : Nat → Nat) (T n : Nat) (z : Nat × Nat) : Nat × Nat := (if dpG fr en dg (T - (n + 1)) z.1 z.2 = 0 then z.1 else z.1 - 1, dpT z.2 (dpG fr en dg (T - (n + 1)) z.1 z.2))
theorem rpS_1 {fr en : Nat → Nat → Bool} {dg : Nat → Nat} {T n : Nat} {z : Nat × Nat} : (rpS fr en dg T n z).1 = if dpG fr en dg (T - (n + 1)) z.1 z.2 = 0 then z.1 else z.1 - 1 := by simp only [rpS]
theorem rpS_2 {fr en : Nat → Nat → Bool} {dg : Nat → Nat} {T n : Nat} {z : Nat × Nat} : (rpS fr en dg T n z).2 = dpT z.2 (dpG fr en dg (T - (n + 1)) z.1 z.2) := by simp only [rpS]
def rpP (fr en : Nat → Nat → Bool) (dg : Nat → Nat) (T F c0 : Nat) : Nat → Nat × Nat
  | 0 => (F, c0)
  | n + 1 => rpS fr en dg T n (rpP fr en dg T F c0 n)
theorem rpP_s {fr en : Nat → Nat → Bool} {dg : Nat → Nat} {T F c0 n : Nat} : rpP fr en dg T F c0 (n + 1) = rpS fr en dg T n (rpP fr en dg T F c0 n) := rfl
def cpS (fr en : Nat → Nat → Bool) (dg : Nat → Nat) (z : Nat × Nat × Nat) : Nat × Nat × Nat := (if dpG fr en dg (z.1 + z.2.1 - 1) z.1 z.2.2 = 0 ∧ 0 < z.2.1 then z.1 else z.1 - 1, if dpG fr en dg (z.1 + z.2.1 - 1) z.1 z.2.2 = 0 ∧ 0 < z.2.1 then z.2.1 - 1 else z.2.1, dpT z.2.2 (dpG fr en dg (z.1 + z.2.1 - 1) z.1 z.2.2))
theorem cpS_1 {fr en : Nat → Nat → Bool} {dg : Nat → Nat} {z : Nat × Nat × Nat} : (cpS fr en dg z).1 = if dpG fr en dg (z.1 + z.2.1 - 1) z.1 z.2.2 = 0 ∧ 0 < z.2.1 then z.1 else z.1 - 1 := by simp only [cpS]
theorem cpS_2 {fr en : Nat → Nat → Bool} {dg : Nat → Nat} {z : Nat × Nat × Nat} : (cpS fr en dg z).2.1 = if dpG fr en dg (z.1 + z.2.1 - 1) z.1 z.2.2 = 0 ∧ 0 < z.2.1 then z.2.1 - 1 else z.2.1 := by simp only [cpS]
theorem cpS_3 {fr en : Nat → Nat → Bool} {dg : Nat → Nat} {z : Nat × Nat × Nat} : (cpS fr en dg z).2.2 = dpT z.2.2 (dpG fr en dg (z.1 + z.2.1 - 1) z.1 z.2.2) := by simp only [cpS]
def cpP (fr en : Nat → Nat → Bool) (dg : Nat → Nat) (G Id c0 : Nat) : Nat → Nat × Nat × Nat
  | 0 => (G, Id, c0)
  | n + 1 => cpS fr en dg (cpP fr en dg G Id c0 n)
theorem cpP_s {fr en : Nat → Nat → Bool} {dg : Nat → Nat} {G Id c0 n : Nat} : cpP fr en dg G Id c0 (n + 1) = cpS fr en dg (cpP fr en dg G Id c0 n) := rfl
/-- what holds on day n of the way -/
def rpQ (fr en : Nat → Nat → Bool) (dg : Nat → Nat) (T F c0 n : Nat) : Prop := ¬ dpC fr en dg (T - n) (rpP fr en dg T F c0 n).1 (rpP fr en dg T F c0 n).2 = dpN ∧ (rpP fr en dg T F c0 n).2 < 144 ∧ (rpP fr en dg T F c0 n).1 ≤ F
/-- the way ends after L days -/
def rpE (fr en : Nat → Nat → Bool) (dg : Nat → Nat) (T F c0 L : Nat) : Prop := L ≤ T ∧ (∀ n, n < L → en (rpP fr en dg T F c0 n).2 (T - n) = false) ∧ en (rpP fr en dg T F c0 L).2 (T - L) = true ∧ ∀ n, n ≤ L → rpQ fr en dg T F c0 n
theorem rpQ_s {fr en : Nat → Nat → Bool} {dg : Nat → Nat} {T F c0 n : Nat} (hn : n < T) (h : rpQ fr en dg T F c0 n) (he : en (rpP fr en dg T F c0 n).2 (T - n) = false) : rpQ fr en dg T F c0 (n + 1) := by
  obtain ⟨h1, h2, h3⟩ := h
  rw [show T - n = (T - (n + 1)) + 1 by omega] at h1 he
  obtain ⟨a1, a2, a3, a4, a5⟩ := dpStep he h1 rfl
  unfold rpQ
  rw [rpP_s, rpS_1, rpS_2]
  refine ⟨a4, ?_, ?_⟩
  · by_cases hm : dpG fr en dg (T - (n + 1)) (rpP fr en dg T F c0 n).1 (rpP fr en dg T F c0 n).2 = 0
    · rw [hm, dpT_0]; exact h2
    · exact (dpT_xy (a3 hm).1).2.2
  · split <;> omega
theorem rpE_of {fr en : Nat → Nat → Bool} {dg : Nat → Nat} {T F c0 : Nat} (hc : c0 < 144) (h : ¬ dpC fr en dg T F c0 = dpN) : ∃ L, rpE fr en dg T F c0 L := by
  have key : ∀ n, n ≤ T → (∃ L, rpE fr en dg T F c0 L) ∨ ((∀ j, j < n → en (rpP fr en dg T F c0 j).2 (T - j) = false) ∧ ∀ j, j ≤ n → rpQ fr en dg T F c0 j) := by
    intro n
    induction n with
    | zero => intro _; exact .inr ⟨fun j hj => by omega, fun j hj => by rw [show j = 0 by omega]; exact ⟨h, hc, Nat.le_refl _⟩⟩
    | succ n ih =>
      intro hn
      rcases ih (by omega) with w | ⟨w1, w2⟩
      · exact .inl w
      · by_cases he : en (rpP fr en dg T F c0 n).2 (T - n) = true
        · exact .inl ⟨n, by omega, w1, he, w2⟩
        · rw [Bool.not_eq_true] at he
          refine .inr ⟨fun j hj => ?_, fun j hj => ?_⟩
          · by_cases hjn : j = n
            · rw [hjn]; exact he
            · exact w1 j (by omega)
          · by_cases hjn : j = n + 1
            · rw [hjn]; exact rpQ_s (by omega) (w2 n (Nat.le_refl _)) he
            · exact w2 j (by omega)
  rcases key T (Nat.le_refl _) with w | ⟨w1, w2⟩
  · exact w
  · by_cases he : en (rpP fr en dg T F c0 T).2 (T - T) = true
    · exact ⟨T, Nat.le_refl _, w1, he, w2⟩
    · rw [Bool.not_eq_true] at he
      have := (w2 T (Nat.le_refl _)).1
      rw [Nat.sub_self] at he this
      exact absurd (dpC_0 he) this
/-- the class's way is the reference's -/
theorem dpR_e {fr en : Nat → Nat → Bool} {dg : Nat → Nat} {d f c g i : Nat} (h : dpR fr en dg d f c g i) : en c d = en c (g + i) := by
  rcases h with ⟨hl, rfl, rfl, h⟩ | ⟨rfl, rfl, h⟩ | ⟨rfl, rfl⟩
  · exact hl.2 _ _ _
  · rfl
  · rfl
theorem cp_rp {fr en : Nat → Nat → Bool} {dg : Nat → Nat} (hg : ∀ c, dg c ≤ 99) {T F c0 G Id L : Nat} (hT : T ≤ 40) (hL : rpE fr en dg T F c0 L) (hR : dpR fr en dg T F c0 G Id) (hn : ¬ dpC fr en dg (G + Id) G c0 = dpN) : ∀ n, n ≤ L → dpR fr en dg (T - n) (rpP fr en dg T F c0 n).1 (rpP fr en dg T F c0 n).2 (cpP fr en dg G Id c0 n).1 (cpP fr en dg G Id c0 n).2.1 ∧ (cpP fr en dg G Id c0 n).2.2 = (rpP fr en dg T F c0 n).2 ∧ ¬ dpC fr en dg ((cpP fr en dg G Id c0 n).1 + (cpP fr en dg G Id c0 n).2.1) (cpP fr en dg G Id c0 n).1 (rpP fr en dg T F c0 n).2 = dpN := by
  intro n
  induction n with
  | zero => intro _; exact ⟨hR, rfl, hn⟩
  | succ n ih =>
    intro h
    obtain ⟨a1, a2, a3⟩ := ih (by omega)
    have he := hL.2.1 n (by omega)
    have hLT := hL.1
    rw [show T - n = (T - (n + 1)) + 1 by omega] at a1 he
    obtain ⟨b1, b2, b3, b4⟩ := dpR_s hg (by omega) a1 a3 he
    have b5 := b4 _ rfl
    have e1 : (cpP fr en dg G Id c0 (n + 1)).2.2 = (rpP fr en dg T F c0 (n + 1)).2 := by
      rw [rpP_s, rpS_2, cpP_s, cpS_3, a2, b3]
    refine ⟨?_, e1, ?_⟩
    · have := b5.1
      rw [rpP_s, rpS_1, rpS_2, cpP_s, cpS_1, cpS_2, a2, b3]
      exact this
    · have := b5.2
      rw [rpP_s, rpS_2, cpP_s, cpS_1, cpS_2, a2, b3]
      exact this
theorem rp_mod {fr en : Nat → Nat → Bool} {dg : Nat → Nat} (hg : ∀ c, dg c ≤ 99) {T F c0 L K : Nat} (hT : T ≤ 40) (hL : rpE fr en dg T F c0 L) {p : Nat → Int32} (hp : ∀ n, n ≤ L → p (K + n) = nI (rpP fr en dg T F c0 n).2) : ∀ n, n ≤ L → pMoves p (K + n) + dpC fr en dg (T - n) (rpP fr en dg T F c0 n).1 (rpP fr en dg T F c0 n).2 % 100 = pMoves p K + dpC fr en dg T F c0 % 100 := by
  intro n
  induction n with
  | zero => intro _; rfl
  | succ n ih =>
    intro h
    have i := ih (by omega)
    have he := hL.2.1 n (by omega)
    have hLT := hL.1
    obtain ⟨q1, q2, q3⟩ := hL.2.2.2 n (by omega)
    obtain ⟨q4, q5, q6⟩ := hL.2.2.2 (n + 1) h
    have hw := dpC_W (fr := fr) (en := en) hg (T - (n + 1)) (by omega) (rpP fr en dg T F c0 (n + 1)).1 (rpP fr en dg T F c0 (n + 1)).2
    rw [show T - n = (T - (n + 1)) + 1 by omega] at q1 he i
    obtain ⟨a1, a2, a3, a4, a5⟩ := dpStep he q1 rfl
    rw [a5] at i
    have e1 : pMoves p (K + (n + 1)) = pMoves p (K + n) + (if p (K + (n + 1)) = p (K + n) then 0 else 1) := rfl
    rw [e1, hp (n + 1) h, hp n (by omega)]
    have e2 : (rpP fr en dg T F c0 (n + 1)).2 = dpT (rpP fr en dg T F c0 n).2 (dpG fr en dg (T - (n + 1)) (rpP fr en dg T F c0 n).1 (rpP fr en dg T F c0 n).2) := by rw [rpP_s, rpS_2]
    have e3 : (rpP fr en dg T F c0 (n + 1)).1 = if dpG fr en dg (T - (n + 1)) (rpP fr en dg T F c0 n).1 (rpP fr en dg T F c0 n).2 = 0 then (rpP fr en dg T F c0 n).1 else (rpP fr en dg T F c0 n).1 - 1 := by rw [rpP_s, rpS_1]
    rw [← e3, ← e2] at i
    have key : (if nI (rpP fr en dg T F c0 (n + 1)).2 = nI (rpP fr en dg T F c0 n).2 then 0 else 1) = (if dpG fr en dg (T - (n + 1)) (rpP fr en dg T F c0 n).1 (rpP fr en dg T F c0 n).2 = 0 then 0 else 1) := by
      by_cases hm : dpG fr en dg (T - (n + 1)) (rpP fr en dg T F c0 n).1 (rpP fr en dg T F c0 n).2 = 0
      · rw [if_pos hm, e2, hm, dpT_0, if_pos rfl]
      · rw [if_neg hm, if_neg (fun w => by
          have w2 := (nI_eq (by omega) (by omega)).mp w
          rw [e2] at w2
          exact dpT_ne (a3 hm).1 (by omega) a1 w2)]
    rw [key]
    rcases hw with hw | hw
    · exact absurd hw q4
    · by_cases hm : dpG fr en dg (T - (n + 1)) (rpP fr en dg T F c0 n).1 (rpP fr en dg T F c0 n).2 = 0
      · rw [if_pos hm] at i ⊢
        omega
      · rw [if_neg hm] at i ⊢
        omega
theorem rp_fin {fr en : Nat → Nat → Bool} {dg : Nat → Nat} (hg : ∀ c, dg c ≤ 99) {T F c0 L K : Nat} (hT : T ≤ 40) (hL : rpE fr en dg T F c0 L) {p : Nat → Int32} (hp : ∀ n, n ≤ L → p (K + n) = nI (rpP fr en dg T F c0 n).2) : pMoves p (K + L) = pMoves p K + dpC fr en dg T F c0 % 100 := by
  have := rp_mod hg hT hL hp L (Nat.le_refl _)
  rw [dpC_e hL.2.2.1] at this
  omega
