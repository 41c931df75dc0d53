/-! PURE: routes: costs by days and fuel that are left -/
def dpN : Nat := 1000000000
def dpX : Nat → Int
  | 1 => -1 | 3 => 1 | 4 => -1 | 5 => 1 | 6 => -1 | 8 => 1 | _ => 0
def dpY : Nat → Int
  | 1 => -1 | 2 => -1 | 3 => -1 | 6 => 1 | 7 => 1 | 8 => 1 | _ => 0
abbrev dpV (c m : Nat) : Prop := 0 ≤ ((c % 12 : Nat) : Int) + dpX m ∧ ((c % 12 : Nat) : Int) + dpX m ≤ 11 ∧ 0 ≤ ((c / 12 : Nat) : Int) + dpY m ∧ ((c / 12 : Nat) : Int) + dpY m ≤ 11
def dpT (c m : Nat) : Nat := (12 * (((c / 12 : Nat) : Int) + dpY m) + (((c % 12 : Nat) : Int) + dpX m)).toNat
def dpA (v g s : Nat) : Nat := if v = dpN then dpN else v + 10000 * g + 100 + s
def dpF (fr : Nat → Nat → Bool) (R : Nat → Nat → Nat) (d f t : Nat) : Nat := if fr t d = true then R f t else dpN
def dpB (fr : Nat → Nat → Bool) (dg : Nat → Nat) (R : Nat → Nat → Nat) (d f c m : Nat) : Nat := if m = 0 then dpA (dpF fr R d f c) (dg c) 0 else if dpV c m ∧ 0 < f then dpA (dpF fr R d (f - 1) (dpT c m)) (dg (dpT c m)) 1 else dpN
def dpM (b : Nat → Nat) : Nat → Nat
  | 0 => b 0
  | k + 1 => if b (k + 1) < dpM b k then b (k + 1) else dpM b k
def dpI (b : Nat → Nat) : Nat → Nat
  | 0 => 0
  | k + 1 => if b (k + 1) < dpM b k then k + 1 else dpI b k
def dpC (fr en : Nat → Nat → Bool) (dg : Nat → Nat) : Nat → Nat → Nat → Nat
  | 0, _, c => if en c 0 = true then 0 else dpN
  | d + 1, f, c => if en c (d + 1) = true then 0 else dpM (dpB fr dg (dpC fr en dg d) d f c) 8
/-- the first move with d + 1 days left -/
def dpG (fr en : Nat → Nat → Bool) (dg : Nat → Nat) (d f c : Nat) : Nat := dpI (dpB fr dg (dpC fr en dg d) d f c) 8
theorem dpC_s {fr en : Nat → Nat → Bool} {dg : Nat → Nat} {d f c : Nat} (h : en c (d + 1) = false) : dpC fr en dg (d + 1) f c = dpM (dpB fr dg (dpC fr en dg d) d f c) 8 := by
  conv => lhs; unfold dpC
  rw [if_neg (by rw [h]; decide)]
theorem dpC_e {fr en : Nat → Nat → Bool} {dg : Nat → Nat} {d f c : Nat} (h : en c d = true) : dpC fr en dg d f c = 0 := by
  cases d with
  | zero => unfold dpC; rw [if_pos h]
  | succ d => unfold dpC; rw [if_pos h]
theorem dpC_0 {fr en : Nat → Nat → Bool} {dg : Nat → Nat} {f c : Nat} (h : en c 0 = false) : dpC fr en dg 0 f c = dpN := by
  unfold dpC
  rw [if_neg (by rw [h]; decide)]
theorem dpX_in (m : Nat) : -1 ≤ dpX m ∧ dpX m ≤ 1 := by
  unfold dpX
  split <;> decide
theorem dpY_in (m : Nat) : -1 ≤ dpY m ∧ dpY m ≤ 1 := by
  unfold dpY
  split <;> decide
theorem dpT_xy {c m : Nat} (h : dpV c m) : ((dpT c m % 12 : Nat) : Int) = ((c % 12 : Nat) : Int) + dpX m ∧ ((dpT c m / 12 : Nat) : Int) = ((c / 12 : Nat) : Int) + dpY m ∧ dpT c m < 144 := by
  obtain ⟨h1, h2, h3, h4⟩ := h
  unfold dpT
  omega
theorem dpT_0 (c : Nat) : dpT c 0 = c := by
  unfold dpT
  rw [show dpX 0 = 0 from rfl, show dpY 0 = 0 from rfl]
  omega
theorem dpT_ne {c m : Nat} (h : dpV c m) (hm : 1 ≤ m) (hm' : m ≤ 8) : ¬ dpT c m = c := by
  intro e
  have := dpT_xy h
  rw [e] at this
  have z : dpX m = 0 ∧ dpY m = 0 := by omega
  match m, hm, hm' with
  | 1, _, _ => exact absurd z.1 (by decide)
  | 2, _, _ => exact absurd z.2 (by decide)
  | 3, _, _ => exact absurd z.1 (by decide)
  | 4, _, _ => exact absurd z.1 (by decide)
  | 5, _, _ => exact absurd z.1 (by decide)
  | 6, _, _ => exact absurd z.1 (by decide)
  | 7, _, _ => exact absurd z.2 (by decide)
  | 8, _, _ => exact absurd z.1 (by decide)
theorem dpM_le {b : Nat → Nat} : ∀ k j, j ≤ k → dpM b k ≤ b j := by
  intro k
  induction k with
  | zero => intro j hj; rw [show j = 0 by omega]; exact Nat.le_refl _
  | succ k ih =>
    intro j hj
    unfold dpM
    by_cases h : b (k + 1) < dpM b k
    · rw [if_pos h]
      by_cases hjk : j = k + 1
      · subst hjk; exact Nat.le_refl _
      · have := ih j (by omega); omega
    · rw [if_neg h]
      by_cases hjk : j = k + 1
      · subst hjk; omega
      · exact ih j (by omega)
theorem dpM_I {b : Nat → Nat} : ∀ k, dpM b k = b (dpI b k) ∧ dpI b k ≤ k ∧ ∀ j, j < dpI b k → dpM b k < b j := by
  intro k
  induction k with
  | zero => exact ⟨rfl, Nat.le_refl _, fun j hj => absurd hj (by show ¬ j < 0; omega)⟩
  | succ k ih =>
    unfold dpM dpI
    by_cases h : b (k + 1) < dpM b k
    · rw [if_pos h, if_pos h]
      exact ⟨rfl, Nat.le_refl _, fun j hj => by have := dpM_le (b := b) k j (by omega); omega⟩
    · rw [if_neg h, if_neg h]
      exact ⟨ih.1, by omega, ih.2.2⟩
theorem dpI_uniq {b : Nat → Nat} {k a : Nat} (h0 : a ≤ k) (h1 : ∀ j, j ≤ k → b a ≤ b j) (h2 : ∀ j, j < a → b a < b j) : dpI b k = a ∧ dpM b k = b a := by
  obtain ⟨e, l, f⟩ := dpM_I (b := b) k
  have g := dpM_le (b := b) k a h0
  have hm : dpM b k = b a := by
    have := h1 (dpI b k) l
    omega
  refine ⟨?_, hm⟩
  rcases Nat.lt_trichotomy (dpI b k) a with w | w | w
  · have := h2 _ w
    omega
  · exact w
  · have := f _ w
    omega
theorem dpI_same {b b' : Nat → Nat} {k : Nat} (h : ∀ j, j ≤ k → b' j ≤ b j) (e : b (dpI b' k) = b' (dpI b' k)) : dpI b k = dpI b' k ∧ dpM b k = dpM b' k := by
  obtain ⟨e', l, f⟩ := dpM_I (b := b') k
  have := dpI_uniq (b := b) (k := k) (a := dpI b' k) l (fun j hj => by
    have := dpM_le (b := b') k j hj
    have := h j hj
    omega) (fun j hj => by
    have := f j hj
    have := h j (by omega)
    omega)
  exact ⟨this.1, by rw [this.2, e, e']⟩
theorem dpM_mono {b b' : Nat → Nat} {k : Nat} (h : ∀ j, j ≤ k → b' j ≤ b j) : dpM b' k ≤ dpM b k := by
  obtain ⟨e, l, f⟩ := dpM_I (b := b) k
  have := dpM_le (b := b') k _ l
  have := h _ l
  omega
theorem dpM_congr {b b' : Nat → Nat} : ∀ k, (∀ j, j ≤ k → b j = b' j) → dpM b k = dpM b' k ∧ dpI b k = dpI b' k := by
  intro k
  induction k with
  | zero => intro h; exact ⟨h 0 (by omega), rfl⟩
  | succ k ih =>
    intro h
    unfold dpM dpI
    rw [(ih (fun j hj => h j (by omega))).1, (ih (fun j hj => h j (by omega))).2, h (k + 1) (by omega)]
    exact ⟨rfl, rfl⟩
/-- what a cost may be with d days and f fuel left -/
def dpW (d f v : Nat) : Prop := v = dpN ∨ (v % 100 ≤ d ∧ v % 100 ≤ f ∧ v / 100 % 100 ≤ d ∧ v / 10000 ≤ 99 * d)
theorem dpW_le {d f v : Nat} (h : dpW d f v) (hd : d ≤ 80) : v ≤ dpN := by
  unfold dpW dpN at *
  omega
theorem dpA_W {d f v g s : Nat} (h : dpW d f v) (hg : g ≤ 99) (hs : s ≤ 1) (hd : d < 80) : dpW (d + 1) (f + s) (dpA v g s) := by
  unfold dpA
  by_cases e : v = dpN
  · rw [if_pos e]; exact .inl rfl
  · rw [if_neg e]
    rcases h with h | h
    · exact absurd h e
    · right
      omega
theorem dpA_mono {d f f' v v' g s : Nat} (h : v' ≤ v) (hv : dpW d f v) (hv' : dpW d f' v') (hg : g ≤ 99) (hs : s ≤ 1) (hd : d < 80) : dpA v' g s ≤ dpA v g s := by
  have l1 := dpW_le (dpA_W hv' hg hs hd) (by omega)
  have l2 := dpW_le hv (by omega)
  by_cases e : v = dpN
  · have : dpA v g s = dpN := by unfold dpA; rw [if_pos e]
    rw [this]; exact l1
  · have : dpA v g s = v + 10000 * g + 100 + s := by unfold dpA; rw [if_neg e]
    rw [this]
    unfold dpA
    rw [if_neg (by omega)]
    omega
theorem dpB_W {fr : Nat → Nat → Bool} {dg : Nat → Nat} (hg : ∀ c, dg c ≤ 99) {R : Nat → Nat → Nat} {d f c m : Nat} (hR : ∀ f t, dpW d f (R f t)) (hd : d < 80) : dpW (d + 1) f (dpB fr dg R d f c m) := by
  have hF : ∀ f t, dpW d f (dpF fr R d f t) := fun f t => by
    unfold dpF
    split
    · exact hR f t
    · exact .inl rfl
  unfold dpB
  split
  · exact dpA_W (hF f c) (hg _) (by decide) hd
  · split
    · rename_i w
      have := dpA_W (s := 1) (hF (f - 1) (dpT c m)) (hg (dpT c m)) (by decide) hd
      rw [show f - 1 + 1 = f by omega] at this
      exact this
    · exact .inl rfl
theorem dpC_W {fr en : Nat → Nat → Bool} {dg : Nat → Nat} (hg : ∀ c, dg c ≤ 99) : ∀ d, d ≤ 80 → ∀ f c, dpW d f (dpC fr en dg d f c) := by
  intro d
  induction d with
  | zero =>
    intro _ f c
    unfold dpC
    split
    · exact .inr ⟨by omega, by omega, by omega, by omega⟩
    · exact .inl rfl
  | succ d ih =>
    intro hd f c
    unfold dpC
    split
    · exact .inr ⟨by omega, by omega, by omega, by omega⟩
    · rw [(dpM_I 8).1]
      exact dpB_W hg (fun f t => ih (by omega) f t) (by omega)
theorem dpB_mono {fr : Nat → Nat → Bool} {dg : Nat → Nat} (hg : ∀ c, dg c ≤ 99) {R R' : Nat → Nat → Nat} {D d d' f f' c m : Nat} (hR : ∀ f t, dpW D f (R f t)) (hR' : ∀ f t, dpW D f (R' f t)) (hfr : ∀ t, fr t d' = fr t d) (h : ∀ f f' t, f ≤ f' → R' f' t ≤ R f t) (hf : f ≤ f') (hd : D < 80) : dpB fr dg R' d' f' c m ≤ dpB fr dg R d f c m := by
  have hFW : ∀ f t, dpW D f (dpF fr R d f t) := fun f t => by
    unfold dpF
    split
    · exact hR f t
    · exact .inl rfl
  have hFW' : ∀ f t, dpW D f (dpF fr R' d' f t) := fun f t => by
    unfold dpF
    split
    · exact hR' f t
    · exact .inl rfl
  have hF : ∀ f f' t, f ≤ f' → dpF fr R' d' f' t ≤ dpF fr R d f t := fun f f' t hf => by
    unfold dpF
    rw [hfr t]
    split
    · exact h f f' t hf
    · exact Nat.le_refl _
  by_cases hm : m = 0
  · unfold dpB
    rw [if_pos hm, if_pos hm]
    exact dpA_mono (hF _ _ _ hf) (hFW _ _) (hFW' _ _) (hg _) (by decide) hd
  · unfold dpB
    rw [if_neg hm, if_neg hm]
    by_cases hv : dpV c m ∧ 0 < f
    · rw [if_pos hv, if_pos ⟨hv.1, by omega⟩]
      exact dpA_mono (hF _ _ _ (by omega)) (hFW _ _) (hFW' _ _) (hg _) (by decide) hd
    · rw [if_neg hv]
      split
      · exact dpW_le (dpA_W (hFW' _ _) (hg _) (by decide) hd) (by omega)
      · exact Nat.le_refl _
/-- more fuel costs no more -/
theorem dpC_f {fr en : Nat → Nat → Bool} {dg : Nat → Nat} (hg : ∀ c, dg c ≤ 99) : ∀ d, d ≤ 80 → ∀ f f' c, f ≤ f' → dpC fr en dg d f' c ≤ dpC fr en dg d f c := by
  intro d
  induction d with
  | zero => intro _ f f' c _; exact Nat.le_refl _
  | succ d ih =>
    intro hd f f' c hf
    unfold dpC
    split
    · exact Nat.le_refl _
    · exact dpM_mono (fun j _ => dpB_mono hg (fun f t => dpC_W hg d (by omega) f t) (fun f t => dpC_W hg d (by omega) f t) (fun _ => rfl) (fun f f' t h => ih (by omega) f f' t h) hf (by omega))
theorem dpB_sat {fr : Nat → Nat → Bool} {dg : Nat → Nat} {R : Nat → Nat → Nat} {d f f' c m : Nat} (h : ∀ f f' t, d ≤ f → d ≤ f' → R f t = R f' t) (hf : d + 1 ≤ f) (hf' : d + 1 ≤ f') : dpB fr dg R d f c m = dpB fr dg R d f' c m := by
  unfold dpB dpF
  rw [h f f' c (by omega) (by omega), h (f - 1) (f' - 1) (dpT c m) (by omega) (by omega)]
  by_cases hm : m = 0
  · rw [if_pos hm, if_pos hm]
  · rw [if_neg hm, if_neg hm]
    by_cases hv : dpV c m
    · rw [if_pos (show dpV c m ∧ 0 < f from ⟨hv, by omega⟩), if_pos (show dpV c m ∧ 0 < f' from ⟨hv, by omega⟩)]
    · rw [if_neg (fun w => hv w.1), if_neg (fun w => hv w.1)]
/-- fuel beyond the days is no use -/
theorem dpC_sat {fr en : Nat → Nat → Bool} {dg : Nat → Nat} : ∀ d f f' c, d ≤ f → d ≤ f' → dpC fr en dg d f c = dpC fr en dg d f' c := by
  intro d
  induction d with
  | zero => intro f f' c _ _; rfl
  | succ d ih =>
    intro f f' c hf hf'
    unfold dpC
    rw [(dpM_congr 8 (fun j _ => dpB_sat (fun f f' t a b => ih f f' t a b) hf hf')).1]
theorem dpG_sat {fr en : Nat → Nat → Bool} {dg : Nat → Nat} {d f f' c : Nat} (hf : d + 1 ≤ f) (hf' : d + 1 ≤ f') : dpG fr en dg d f c = dpG fr en dg d f' c :=
  (dpM_congr 8 (fun j _ => dpB_sat (fun f f' t a b => dpC_sat d f f' t a b) hf hf')).2
theorem dpA_ne {v g s : Nat} (h : ¬ dpA v g s = dpN) : ¬ v = dpN ∧ dpA v g s = v + 10000 * g + 100 + s := by
  unfold dpA at *
  by_cases e : v = dpN
  · rw [if_pos e] at h; exact absurd rfl h
  · rw [if_neg e] at h ⊢
    exact ⟨e, rfl⟩
theorem dpF_ne {fr : Nat → Nat → Bool} {R : Nat → Nat → Nat} {d f t : Nat} (h : ¬ dpF fr R d f t = dpN) : fr t d = true ∧ dpF fr R d f t = R f t := by
  unfold dpF at *
  by_cases e : fr t d = true
  · rw [if_pos e]; exact ⟨e, rfl⟩
  · rw [if_neg e] at h; exact absurd rfl h
/-- a move that can be made -/
theorem dpB_ne {fr : Nat → Nat → Bool} {dg : Nat → Nat} {R : Nat → Nat → Nat} {d f c m : Nat} (h : ¬ dpB fr dg R d f c m = dpN) : fr (dpT c m) d = true ∧ (¬ m = 0 → dpV c m ∧ 0 < f) ∧ ¬ R (if m = 0 then f else f - 1) (dpT c m) = dpN ∧ dpB fr dg R d f c m = R (if m = 0 then f else f - 1) (dpT c m) + 10000 * dg (dpT c m) + 100 + (if m = 0 then 0 else 1) := by
  unfold dpB at *
  by_cases hm : m = 0
  · subst hm
    rw [if_pos rfl] at h ⊢
    rw [if_pos rfl, if_pos rfl, dpT_0]
    have a := dpA_ne h
    have b := dpF_ne a.1
    rw [a.2, b.2]
    exact ⟨b.1, fun w => absurd rfl w, by rw [← b.2]; exact a.1, rfl⟩
  · rw [if_neg hm] at h ⊢
    rw [if_neg hm, if_neg hm]
    by_cases hv : dpV c m ∧ 0 < f
    · rw [if_pos hv] at h ⊢
      have a := dpA_ne h
      have b := dpF_ne a.1
      rw [a.2, b.2]
      exact ⟨b.1, fun _ => hv, by rw [← b.2]; exact a.1, rfl⟩
    · rw [if_neg hv] at h
      exact absurd rfl h
/-- only cells from which the fuel reaches the end -/
theorem dpC_dist {fr en : Nat → Nat → Bool} {dg : Nat → Nat} {to : Nat} (hen : ∀ c d, en c d = true → c = to) : ∀ d f c, ¬ dpC fr en dg d f c = dpN → ((c % 12 : Nat) : Int) - f ≤ ((to % 12 : Nat) : Int) ∧ ((to % 12 : Nat) : Int) ≤ ((c % 12 : Nat) : Int) + f ∧ ((c / 12 : Nat) : Int) - f ≤ ((to / 12 : Nat) : Int) ∧ ((to / 12 : Nat) : Int) ≤ ((c / 12 : Nat) : Int) + f := by
  intro d
  induction d with
  | zero =>
    intro f c h
    unfold dpC at h
    by_cases e : en c 0 = true
    · rw [hen c 0 e]; omega
    · rw [if_neg e] at h; exact absurd rfl h
  | succ d ih =>
    intro f c h
    unfold dpC at h
    by_cases e : en c (d + 1) = true
    · rw [hen c _ e]; omega
    · rw [if_neg e, (dpM_I 8).1] at h
      obtain ⟨_, a, b, _⟩ := dpB_ne h
      have i := ih _ _ b
      generalize dpI (dpB fr dg (dpC fr en dg d) d f c) 8 = m at *
      by_cases hm : m = 0
      · subst hm
        rw [if_pos rfl, dpT_0] at i
        exact i
      · rw [if_neg hm] at i
        have t := dpT_xy (a hm).1
        have := dpX_in m
        have := dpY_in m
        have := (a hm).2
        omega
theorem dpC_fu {fr en : Nat → Nat → Bool} {dg : Nat → Nat} (hg : ∀ c, dg c ≤ 99) : ∀ d, d ≤ 80 → (∀ f f' c, ¬ dpC fr en dg d f' c = dpN → dpC fr en dg d f' c % 100 ≤ f → f ≤ f' → dpC fr en dg d f c = dpC fr en dg d f' c) ∧ ∀ f f' c, d < 80 → en c (d + 1) = false → ¬ dpC fr en dg (d + 1) f' c = dpN → dpC fr en dg (d + 1) f' c % 100 ≤ f → f ≤ f' → dpC fr en dg (d + 1) f c = dpC fr en dg (d + 1) f' c ∧ dpG fr en dg d f c = dpG fr en dg d f' c := by
  intro d
  induction d with
  | zero =>
    intro _
    refine ⟨fun f f' c _ _ _ => by unfold dpC; rfl, fun f f' c hd he hn hl hf => ?_⟩
    have e : ∀ f, dpC fr en dg (0 + 1) f c = dpM (dpB fr dg (dpC fr en dg 0) 0 f c) 8 := fun f => dpC_s he
    rw [e] at hn hl
    rw [e, e]
    have key := dpI_same (b := dpB fr dg (dpC fr en dg 0) 0 f c) (b' := dpB fr dg (dpC fr en dg 0) 0 f' c) (k := 8) (fun j _ => dpB_mono hg (fun f t => dpC_W hg 0 (by omega) f t) (fun f t => dpC_W hg 0 (by omega) f t) (fun _ => rfl) (fun f f' t h => dpC_f hg 0 (by omega) f f' t h) hf (by omega)) (by
      rw [(dpM_I 8).1] at hn hl
      obtain ⟨a1, a2, a3, a4⟩ := dpB_ne hn
      have w := dpC_W (en := en) (fr := fr) hg 0 (by omega) (if dpI (dpB fr dg (dpC fr en dg 0) 0 f' c) 8 = 0 then f' else f' - 1) (dpT c (dpI (dpB fr dg (dpC fr en dg 0) 0 f' c) 8))
      rw [a4] at hl
      generalize dpI (dpB fr dg (dpC fr en dg 0) 0 f' c) 8 = m at *
      by_cases hm : m = 0
      · subst hm; rfl
      · rw [if_neg hm] at a3 a4 hl w
        rw [if_neg hm] at hl
        unfold dpB
        have hf1 : 0 < f := by
          rcases w with w | w
          · exact absurd w a3
          · omega
        rw [if_neg hm, if_neg hm, if_pos (show dpV c m ∧ 0 < f from ⟨(a2 hm).1, hf1⟩), if_pos (a2 hm)]
        unfold dpF dpC
        rfl)
    exact ⟨key.2, key.1⟩
  | succ d ih =>
    intro hd
    have ih' := ih (by omega)
    have first : ∀ f f' c, ¬ dpC fr en dg (d + 1) f' c = dpN → dpC fr en dg (d + 1) f' c % 100 ≤ f → f ≤ f' → dpC fr en dg (d + 1) f c = dpC fr en dg (d + 1) f' c := fun f f' c hn hl hf => by
      by_cases he : en c (d + 1) = true
      · unfold dpC
        rw [if_pos he, if_pos he]
      · exact (ih'.2 f f' c (by omega) (by rw [Bool.not_eq_true] at he; exact he) hn hl hf).1
    refine ⟨first, fun f f' c hd' he hn hl hf => ?_⟩
    have e : ∀ f, dpC fr en dg (d + 1 + 1) f c = dpM (dpB fr dg (dpC fr en dg (d + 1)) (d + 1) f c) 8 := fun f => dpC_s he
    rw [e] at hn hl
    rw [e, e]
    have key := dpI_same (b := dpB fr dg (dpC fr en dg (d + 1)) (d + 1) f c) (b' := dpB fr dg (dpC fr en dg (d + 1)) (d + 1) f' c) (k := 8) (fun j _ => dpB_mono hg (fun f t => dpC_W hg (d + 1) (by omega) f t) (fun f t => dpC_W hg (d + 1) (by omega) f t) (fun _ => rfl) (fun f f' t h => dpC_f hg (d + 1) (by omega) f f' t h) hf (by omega)) (by
      rw [(dpM_I 8).1] at hn hl
      obtain ⟨a1, a2, a3, a4⟩ := dpB_ne hn
      have w := dpC_W (en := en) (fr := fr) hg (d + 1) (by omega) (if dpI (dpB fr dg (dpC fr en dg (d + 1)) (d + 1) f' c) 8 = 0 then f' else f' - 1) (dpT c (dpI (dpB fr dg (dpC fr en dg (d + 1)) (d + 1) f' c) 8))
      rw [a4] at hl
      generalize dpI (dpB fr dg (dpC fr en dg (d + 1)) (d + 1) f' c) 8 = m at *
      by_cases hm : m = 0
      · subst hm
        rw [if_pos rfl, dpT_0] at a3 hl w
        rw [if_pos rfl] at hl
        unfold dpB dpF
        rw [if_pos rfl, if_pos rfl, first f f' c a3 (by
          rcases w with w | w
          · exact absurd w a3
          · omega) hf]
      · rw [if_neg hm] at a3 a4 hl w
        rw [if_neg hm] at hl
        have hf1 : 0 < f := by
          rcases w with w | w
          · exact absurd w a3
          · omega
        unfold dpB dpF
        rw [if_neg hm, if_neg hm, if_pos (show dpV c m ∧ 0 < f from ⟨(a2 hm).1, hf1⟩), if_pos (a2 hm), first (f - 1) (f' - 1) (dpT c m) a3 (by
          rcases w with w | w
          · exact absurd w a3
          · omega) (by omega)])
    exact ⟨key.2, key.1⟩
