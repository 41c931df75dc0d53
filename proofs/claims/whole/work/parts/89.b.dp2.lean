/-! PURE: routes: alone; the way by costs -/
def dpL (fr en : Nat → Nat → Bool) : Prop := (∀ c d d', fr c d = fr c d') ∧ ∀ c d d', en c d = en c d'
theorem dpC_d {fr en : Nat → Nat → Bool} {dg : Nat → Nat} (hg : ∀ c, dg c ≤ 99) (hl : dpL fr en) : ∀ d, d < 80 → ∀ f c, dpC fr en dg (d + 1) f c ≤ dpC fr en dg d f c := by
  intro d
  induction d with
  | zero =>
    intro _ f c
    by_cases e : en c 0 = true
    · rw [dpC_e e, dpC_e (by rw [hl.2 c _ 0]; exact e)]
      exact Nat.le_refl _
    · rw [Bool.not_eq_true] at e
      rw [dpC_0 e]
      exact dpW_le (dpC_W hg 1 (by omega) f c) (by omega)
  | succ d ih =>
    intro hd f c
    by_cases e : en c (d + 1) = true
    · rw [dpC_e e, dpC_e (by rw [hl.2 c _ (d + 1)]; exact e)]
      exact Nat.le_refl _
    · rw [Bool.not_eq_true] at e
      rw [dpC_s e, dpC_s (by rw [hl.2 c _ (d + 1)]; exact e)]
      refine dpM_mono (fun j _ => dpB_mono (D := d + 1) hg ?_ ?_ ?_ ?_ (Nat.le_refl _) (by omega))
      · intro f t
        have := dpC_W (fr := fr) (en := en) hg d (by omega) f t
        unfold dpW at this ⊢
        omega
      · exact fun f t => dpC_W hg (d + 1) (by omega) f t
      · exact fun t => hl.1 t _ _
      · exact fun f f' t h => Nat.le_trans (ih (by omega) f' t) (dpC_f hg d (by omega) f f' t h)
theorem dpB_d {fr : Nat → Nat → Bool} {dg : Nat → Nat} {R : Nat → Nat → Nat} {d d' f c m : Nat} (h : ∀ c, fr c d = fr c d') : dpB fr dg R d f c m = dpB fr dg R d' f c m := by
  unfold dpB dpF
  rw [h, h]
/-- alone, staying is no use -/
theorem dpB_al {fr en : Nat → Nat → Bool} {dg : Nat → Nat} (hg : ∀ c, dg c ≤ 99) (hl : dpL fr en) {d f c : Nat} (hd : d < 80) (he : en c (d + 1) = false) (hn : ¬ dpC fr en dg (d + 1) f c = dpN) : ¬ dpG fr en dg d f c = 0 := by
  intro e0
  have e1 := dpC_s (fr := fr) (dg := dg) (f := f) he
  have hm := (dpM_I (b := dpB fr dg (dpC fr en dg d) d f c) 8).1
  unfold dpG at e0
  rw [e0] at hm
  have hb := dpB_ne (fr := fr) (dg := dg) (R := dpC fr en dg d) (d := d) (f := f) (c := c) (m := 0) (by rw [← hm, ← e1]; exact hn)
  rw [if_pos rfl, if_pos rfl, dpT_0] at hb
  have := dpC_d (fr := fr) (en := en) hg hl d hd f c
  omega
theorem dpC_al {fr en : Nat → Nat → Bool} {dg : Nat → Nat} (hg : ∀ c, dg c ≤ 99) (hl : dpL fr en) : ∀ d, d < 80 → (∀ f c, f ≤ d → dpC fr en dg (d + 1) f c = dpC fr en dg d f c) ∧ (d < 79 → ∀ f c, f ≤ d + 1 → en c 0 = false → dpC fr en dg (d + 2) f c = dpC fr en dg (d + 1) f c ∧ dpG fr en dg (d + 1) f c = dpG fr en dg d f c) := by
  intro d
  have step : ∀ d, d < 79 → (∀ f c, f ≤ d → dpC fr en dg (d + 1) f c = dpC fr en dg d f c) → ∀ f c, f ≤ d + 1 → en c 0 = false → dpC fr en dg (d + 2) f c = dpC fr en dg (d + 1) f c ∧ dpG fr en dg (d + 1) f c = dpG fr en dg d f c := by
    intro d hd ih f c hf he
    have e2 : dpC fr en dg (d + 2) f c = _ := dpC_s (d := d + 1) (by rw [hl.2 c _ 0]; exact he)
    have e1 : dpC fr en dg (d + 1) f c = _ := dpC_s (d := d) (by rw [hl.2 c _ 0]; exact he)
    have mono : ∀ j, j ≤ 8 → dpB fr dg (dpC fr en dg (d + 1)) (d + 1) f c j ≤ dpB fr dg (dpC fr en dg d) d f c j := fun j _ => by
      refine dpB_mono (D := d + 1) hg ?_ (fun f t => dpC_W hg (d + 1) (by omega) f t) (fun t => hl.1 t _ _) (fun f f' t h => Nat.le_trans (dpC_d hg hl d (by omega) f' t) (dpC_f hg d (by omega) f f' t h)) (Nat.le_refl _) (by omega)
      intro f t
      have := dpC_W (fr := fr) (en := en) hg d (by omega) f t
      unfold dpW at this ⊢
      omega
    have key := dpI_same (b := dpB fr dg (dpC fr en dg d) d f c) (b' := dpB fr dg (dpC fr en dg (d + 1)) (d + 1) f c) (k := 8) mono (by
      by_cases h0 : dpI (dpB fr dg (dpC fr en dg (d + 1)) (d + 1) f c) 8 = 0
      · by_cases hn : dpC fr en dg (d + 2) f c = dpN
        · have hm := (dpM_I (b := dpB fr dg (dpC fr en dg (d + 1)) (d + 1) f c) 8).1
          rw [e2] at hn
          rw [hn] at hm
          have l := mono _ (dpM_I (b := dpB fr dg (dpC fr en dg (d + 1)) (d + 1) f c) 8).2.1
          have u := dpW_le (dpB_W (fr := fr) (c := c) (f := f) (m := dpI (dpB fr dg (dpC fr en dg (d + 1)) (d + 1) f c) 8) hg (fun f t => dpC_W (fr := fr) (en := en) hg d (by omega) f t) (by omega)) (by omega)
          omega
        · exact absurd h0 (dpB_al hg hl (by omega) (by rw [hl.2 c _ 0]; exact he) hn)
      · generalize dpI (dpB fr dg (dpC fr en dg (d + 1)) (d + 1) f c) 8 = m at *
        rw [dpB_d (d := d + 1) (d' := d) (fun c => hl.1 c _ _)]
        unfold dpB dpF
        rw [if_neg h0, if_neg h0]
        by_cases hv : dpV c m ∧ 0 < f
        · rw [if_pos hv, if_pos hv, ih (f - 1) _ (by omega)]
        · rw [if_neg hv, if_neg hv])
    exact ⟨by rw [e2, e1, key.2], key.1.symm⟩
  induction d with
  | zero =>
    intro _
    have first : ∀ f c, f ≤ 0 → dpC fr en dg (0 + 1) f c = dpC fr en dg 0 f c := by
      intro f c hf
      by_cases e : en c 0 = true
      · rw [dpC_e e, dpC_e (by rw [hl.2 c _ 0]; exact e)]
      · rw [Bool.not_eq_true] at e
        have u := dpC_W (fr := fr) (en := en) hg 1 (by omega) f c
        rw [dpC_0 e]
        by_cases hn : dpC fr en dg (0 + 1) f c = dpN
        · exact hn
        · exfalso
          rw [dpC_s (by rw [hl.2 c _ 0]; exact e), (dpM_I 8).1] at hn
          obtain ⟨_, a2, a3, _⟩ := dpB_ne hn
          by_cases h0 : dpI (dpB fr dg (dpC fr en dg 0) 0 f c) 8 = 0
          · rw [h0, if_pos rfl, dpT_0] at a3
            exact a3 (dpC_0 e)
          · have := (a2 h0).2
            omega
    exact ⟨first, fun hd => step 0 hd first⟩
  | succ d ih =>
    intro hd
    have first : ∀ f c, f ≤ d + 1 → dpC fr en dg (d + 1 + 1) f c = dpC fr en dg (d + 1) f c := by
      intro f c hf
      by_cases e : en c 0 = true
      · rw [dpC_e (by rw [hl.2 c _ 0]; exact e), dpC_e (by rw [hl.2 c _ 0]; exact e)]
      · rw [Bool.not_eq_true] at e
        exact ((ih (by omega)).2 (by omega) f c hf e).1
    exact ⟨first, fun hd => step (d + 1) hd first⟩
theorem dpC_al' {fr en : Nat → Nat → Bool} {dg : Nat → Nat} (hg : ∀ c, dg c ≤ 99) (hl : dpL fr en) {f c : Nat} : ∀ k, f + k ≤ 80 → dpC fr en dg (f + k) f c = dpC fr en dg f f c := by
  intro k
  induction k with
  | zero => intro _; rfl
  | succ k ih =>
    intro h
    rw [← ih (by omega)]
    exact (dpC_al hg hl (f + k) (by omega)).1 f c (by omega)
theorem dpG_al' {fr en : Nat → Nat → Bool} {dg : Nat → Nat} (hg : ∀ c, dg c ≤ 99) (hl : dpL fr en) {f c : Nat} (he : en c 0 = false) : ∀ k, f + k < 79 → dpG fr en dg (f + k) (f + 1) c = dpG fr en dg f (f + 1) c := by
  intro k
  induction k with
  | zero => intro _; rfl
  | succ k ih =>
    intro h
    rw [← ih (by omega)]
    exact ((dpC_al hg hl (f + k) (by omega)).2 (by omega) (f + 1) c (by omega) he).2
/-- a step of the way -/
theorem dpStep {fr en : Nat → Nat → Bool} {dg : Nat → Nat} {d f c : Nat} (he : en c (d + 1) = false) (hn : ¬ dpC fr en dg (d + 1) f c = dpN) {m : Nat} (hm : dpG fr en dg d f c = m) : m ≤ 8 ∧ fr (dpT c m) d = true ∧ (¬ m = 0 → dpV c m ∧ 0 < f) ∧ ¬ dpC fr en dg d (if m = 0 then f else f - 1) (dpT c m) = dpN ∧ dpC fr en dg (d + 1) f c = dpC fr en dg d (if m = 0 then f else f - 1) (dpT c m) + 10000 * dg (dpT c m) + 100 + (if m = 0 then 0 else 1) := by
  rw [dpC_s he, (dpM_I 8).1] at hn
  rw [dpC_s he, (dpM_I 8).1]
  have := dpB_ne hn
  unfold dpG at hm
  rw [hm] at this ⊢
  refine ⟨?_, this⟩
  rw [← hm]
  exact (dpM_I 8).2.1
/-- the reference's state (days, fuel left) and the class's (going, idle left), at cell c -/
def dpR (fr en : Nat → Nat → Bool) (dg : Nat → Nat) (d f c g i : Nat) : Prop := (dpL fr en ∧ i = 0 ∧ g = f ∧ f ≤ d) ∨ (i = 0 ∧ g = d ∧ dpC fr en dg d d c % 100 ≤ f) ∨ (g = f ∧ d = g + i)
theorem dpR_C {fr en : Nat → Nat → Bool} {dg : Nat → Nat} (hg : ∀ c, dg c ≤ 99) {d f c g i : Nat} (hd : d ≤ 40) (h : dpR fr en dg d f c g i) (hn : ¬ dpC fr en dg (g + i) g c = dpN) : dpC fr en dg d f c = dpC fr en dg (g + i) g c := by
  rcases h with ⟨hl, rfl, rfl, h⟩ | ⟨rfl, rfl, h⟩ | ⟨rfl, rfl⟩
  · obtain ⟨k, rfl⟩ : ∃ k, d = g + k := ⟨d - g, by omega⟩
    exact dpC_al' hg hl k (by omega)
  · rw [Nat.add_zero] at hn ⊢
    rcases Nat.le_total f g with w | w
    · exact (dpC_fu hg g (by omega)).1 f g c hn h w
    · exact dpC_sat g f g c w (Nat.le_refl _)
  · rfl
theorem dpR_s {fr en : Nat → Nat → Bool} {dg : Nat → Nat} (hg : ∀ c, dg c ≤ 99) {d f c g i : Nat} (hd : d + 1 ≤ 40) (h : dpR fr en dg (d + 1) f c g i) (hn : ¬ dpC fr en dg (g + i) g c = dpN) (he : en c (d + 1) = false) : en c (g + i) = false ∧ 1 ≤ g + i ∧ dpG fr en dg (g + i - 1) g c = dpG fr en dg d f c ∧ ∀ m, dpG fr en dg d f c = m →
    dpR fr en dg d (if m = 0 then f else f - 1) (dpT c m) (if m = 0 ∧ 0 < i then g else g - 1) (if m = 0 ∧ 0 < i then i - 1 else i) ∧ ¬ dpC fr en dg ((if m = 0 ∧ 0 < i then g else g - 1) + (if m = 0 ∧ 0 < i then i - 1 else i)) (if m = 0 ∧ 0 < i then g else g - 1) (dpT c m) = dpN := by
  have hC := dpR_C hg hd h hn
  have hn' : ¬ dpC fr en dg (d + 1) f c = dpN := by rw [hC]; exact hn
  rcases h with ⟨hl, rfl, rfl, h⟩ | ⟨rfl, rfl, h⟩ | ⟨rfl, h⟩
  · have he0 : en c 0 = false := by rw [hl.2 c 0 (d + 1)]; exact he
    have he1 : en c (g + 0) = false := by rw [hl.2 c _ 0]; exact he0
    cases g with
    | zero => rw [dpC_0 he1] at hn; exact absurd rfl hn
    | succ g =>
      obtain ⟨k, rfl⟩ : ∃ k, d = g + k := ⟨d - g, by omega⟩
      have e := dpG_al' (fr := fr) (en := en) (f := g) hg hl he0 k (by omega)
      refine ⟨he1, by omega, e.symm, fun m hm => ?_⟩
      obtain ⟨_, a1, a2, a3, a4⟩ := dpStep he hn' hm
      have hm0 : ¬ m = 0 := by rw [← hm]; exact dpB_al hg hl (by omega) he hn'
      rw [if_neg hm0, if_neg (fun w => hm0 w.1), if_neg (fun w => hm0 w.1)]
      rw [if_neg hm0] at a3
      refine ⟨.inl ⟨hl, rfl, rfl, by omega⟩, ?_⟩
      rw [show g + 1 - 1 + 0 = g by omega, show g + 1 - 1 = g by omega]
      rw [show g + 1 - 1 = g by omega, dpC_al' hg hl k (by omega)] at a3
      exact a3
  · have hw := dpC_W (fr := fr) (en := en) hg (d + 1) (by omega) (d + 1) c
    have hG : dpG fr en dg d (d + 1) c = dpG fr en dg d f c := by
      rcases Nat.le_total f (d + 1) with w | w
      · exact ((dpC_fu hg d (by omega)).2 f (d + 1) c (by omega) he hn h w).2.symm
      · exact dpG_sat (Nat.le_refl _) w
    refine ⟨he, by omega, hG, fun m hm => ?_⟩
    have z0 : ¬ (m = 0 ∧ 0 < 0) := fun w => by omega
    rw [if_neg z0, if_neg z0]
    rw [Nat.add_zero] at hn
    obtain ⟨_, a1, a2, a3, a4⟩ := dpStep he hn (hG.trans hm)
    have hs : dpC fr en dg d (if m = 0 then d + 1 else d + 1 - 1) (dpT c m) = dpC fr en dg d d (dpT c m) := dpC_sat d _ d _ (by split <;> omega) (Nat.le_refl _)
    rw [hs] at a3 a4
    have hw2 := dpC_W (fr := fr) (en := en) hg d (by omega) d (dpT c m)
    refine ⟨.inr (.inl ⟨rfl, by omega, ?_⟩), ?_⟩
    · rcases hw2 with hw2 | hw2
      · exact absurd hw2 a3
      · rw [a4] at h
        by_cases hm0 : m = 0
        · rw [if_pos hm0] at h ⊢
          omega
        · rw [if_neg hm0] at h ⊢
          omega
    · exact a3
  · rw [← h] at hn ⊢
    refine ⟨he, by omega, rfl, fun m hm => ?_⟩
    obtain ⟨_, a1, a2, a3, a4⟩ := dpStep he hn hm
    by_cases hm0 : m = 0
    · subst hm0
      by_cases hi : 0 < i
      · rw [if_pos rfl] at a3
        rw [if_pos rfl, if_pos ⟨rfl, hi⟩, if_pos ⟨rfl, hi⟩, show g + (i - 1) = d by omega]
        exact ⟨.inr (.inr ⟨rfl, by omega⟩), a3⟩
      · rw [if_pos rfl] at a3
        rw [if_pos rfl, if_neg (fun w => hi w.2), if_neg (fun w => hi w.2), show g - 1 + i = d by omega, show g - 1 = d by omega]
        rw [dpC_sat d g d _ (by omega) (Nat.le_refl _)] at a3
        refine ⟨.inr (.inl ⟨by omega, rfl, ?_⟩), a3⟩
        have hw2 := dpC_W (fr := fr) (en := en) hg d (by omega) d (dpT c 0)
        rcases hw2 with hw2 | hw2
        · exact absurd hw2 a3
        · omega
    · rw [if_neg hm0] at a3
      have := (a2 hm0).2
      rw [if_neg hm0, if_neg (fun w => hm0 w.1), if_neg (fun w => hm0 w.1), show g - 1 + i = d by omega]
      exact ⟨.inr (.inr ⟨rfl, by omega⟩), a3⟩
