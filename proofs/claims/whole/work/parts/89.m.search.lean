/-! PURE: routes: the class's search -/
/-- before row g of round i -/
def SI (I : Nat → Nat → Int32) (e : Int32) (G Id fm to S i g : Nat) (s : q_Mm) : Prop := ClM I e G Id fm to S s ∧
  (∀ g' c, g' < g → g' ≤ G → c < 144 → inW fm (G - g') c → s.1 90 (144 * g' + c) = nI (cvN (cfD I e (G + Id) to (g' + i) g' c))) ∧
  (0 < i → ∀ g' c, g ≤ g' → g' ≤ G → c < 144 → inW fm (G - g') c → s.1 90 (144 * g' + c) = nI (cvN (cfD I e (G + Id) to (g' + i - 1) g' c))) ∧
  (∀ g' c, g' ≤ G → c < 144 → ¬ (inW fm (G - g') c ∧ inW to g' c) → s.1 90 (144 * g' + c) = 536870912) ∧
  ∀ g' i' c, g' ≤ G → (i' < i ∨ (i' = i ∧ g' < g)) → c < 144 → inW fm (G - g') c → inW to g' c → Kok I e G Id to g' i' c s
theorem cfD_far {I : Nat → Nat → Int32} {e : Int32} {T to d f c : Nat} (h : ¬ inW to f c) : cfD I e T to d f c = dpN := by
  by_cases hn : cfD I e T to d f c = dpN
  · exact hn
  · exfalso
    have a := dpF_ne hn
    have hn2 := hn
    unfold cfD at hn2
    rw [a.2] at hn2
    have := dpC_dist (to := to) (fun c d he => by
      unfold enD at he
      rw [Bool.and_eq_true] at he
      exact of_decide_eq_true he.1) d f c hn2
    apply h
    unfold inW
    omega
theorem SI_s {I : Nat → Nat → Int32} {e : Int32} {G Id fm to S i g : Nat} {s : q_Mm} (hC : ClS I e G Id fm to S) (hg : g ≤ G) (hi : i ≤ Id) (h : SI I e G Id fm to S i g s) : ∃ s', f_X4_weighRow (nI g) (nI i) s = some s' ∧ SI I e G Id fm to S i (g + 1) s' := by
  obtain ⟨h1, h2, h3, h4, h5⟩ := h
  obtain ⟨s', e1, r1, r2, r3, r4, r5⟩ := row9 hC hg hi (fun a c b d => h3 a g c (Nat.le_refl _) hg b d) (fun a c b d => by
    have := h2 (g - 1) c (by omega) (by omega) b d
    rw [show g - 1 + i = g + i - 1 by omega] at this
    exact this) h1
  refine ⟨s', e1, r1, fun g' c a1 a2 a3 a4 => ?_, fun a0 g' c a1 a2 a3 a4 => ?_, fun g' c a2 a3 a4 => ?_, fun g' i' c a1 a2 a3 a4 a5 => ?_⟩
  · by_cases hg' : g' = g
    · subst hg'
      by_cases ht : inW to g' c
      · exact (r3 c a3 ⟨a4, ht⟩).1
      · rw [r4 c a3 (fun w => ht w.2), h4 g' c hg a3 (fun w => ht w.2), cfD_far ht, cv_N]
        rfl
    · rw [r2 _ (by omega)]
      exact h2 g' c (by omega) a2 a3 a4
  · rw [r2 _ (by omega)]
    exact h3 a0 g' c (by omega) a2 a3 a4
  · by_cases hg' : g' = g
    · subst hg'
      rw [r4 c a3 a4]
      exact h4 g' c a2 a3 a4
    · rw [r2 _ (by omega)]
      exact h4 g' c a2 a3 a4
  · by_cases hgi : g' = g ∧ i' = i
    · obtain ⟨rfl, rfl⟩ := hgi
      exact (r3 c a3 ⟨a4, a5⟩).2
    · exact Kok_s (r5 g' i' c a1 a3 hgi) (h5 g' i' c a1 (by omega) a3 a4 a5)
theorem s76 {I : Nat → Nat → Int32} {e : Int32} {G Id fm to S i : Nat} {s : q_Mm} (hC : ClS I e G Id fm to S) (hi : i ≤ Id) (h : SI I e G Id fm to S i 0 s) : ∃ s', l_X4_search_76 7000 (nI i) 0 s = some s' ∧ SI I e G Id fm to S (i + 1) 0 s' := by
  have hGI := hC.2.2.1
  obtain ⟨s', e1, h1, h2, h3, h4, h5⟩ := qlp7 (fun f g (z : q_Mm) => l_X4_search_76 f (nI i) (nI g) z) (G + 1) 0 s (fun g z => SI I e G Id fm to S i g z) (fun z => z) (by omega) (by omega) h
    (fun f z h => by
      show l_X4_search_76 (f + 1) _ _ _ = _
      unfold l_X4_search_76
      rw [h.1.2.2.2.1, if_pos (show nI G < nI (G + 1) by rw [r_lt, r_nI (by omega), r_nI (by omega)]; omega)])
    (fun f g z hg h => by
      obtain ⟨z', w1, w2⟩ := SI_s hC (by omega) hi h
      refine ⟨z', ?_, w2⟩
      show l_X4_search_76 (f + 1) _ _ _ = l_X4_search_76 f _ _ _
      conv => lhs; unfold l_X4_search_76
      rw [h.1.2.2.2.1, if_neg (show ¬ nI G < nI g by rw [r_lt, r_nI (by omega), r_nI (by omega)]; omega), w1, Option.bind_some, nI_1])
  refine ⟨s', e1, h1, fun g' c a1 => by omega, fun _ g' c a1 a2 a3 a4 => ?_, h4, fun g' i' c a1 a2 a3 a4 a5 => h5 g' i' c a1 (by omega) a3 a4 a5⟩
  rw [show g' + (i + 1) - 1 = g' + i by omega]
  exact h2 g' c (by omega) a2 a3 a4
theorem s65 {I : Nat → Nat → Int32} {e : Int32} {G Id fm to S : Nat} {s : q_Mm} (hC : ClS I e G Id fm to S) (h : SI I e G Id fm to S 0 0 s) : ∃ s', l_X4_search_65 7000 0 s = some s' ∧ SI I e G Id fm to S (Id + 1) 0 s' := by
  have hGI := hC.2.2.1
  exact qlp7 (fun f i (z : q_Mm) => l_X4_search_65 f (nI i) z) (Id + 1) 0 s (fun i z => SI I e G Id fm to S i 0 z) (fun z => z) (by omega) (by omega) h
    (fun f z h => by
      show l_X4_search_65 (f + 1) _ _ = _
      unfold l_X4_search_65
      rw [h.1.2.2.2.2.1, if_pos (show nI Id < nI (Id + 1) by rw [r_lt, r_nI (by omega), r_nI (by omega)]; omega)])
    (fun f i z hi h => by
      obtain ⟨z', w1, w2⟩ := s76 hC (by omega) h
      refine ⟨z', ?_, w2⟩
      show l_X4_search_65 (f + 1) _ _ = l_X4_search_65 f _ _
      conv => lhs; unfold l_X4_search_65
      rw [h.1.2.2.2.2.1, if_neg (show ¬ nI Id < nI i by rw [r_lt, r_nI (by omega), r_nI (by omega)]; omega), w1, Option.bind_some, nI_1])
theorem s35 {G : Nat} {s : q_Mm} (hG : G ≤ 40) (h6 : s.1 89 6 = nI G) : ∃ s', l_X4_search_35 7000 0 s = some s' ∧ (∀ q, ¬ q = 90 → s'.1 q = s.1 q) ∧ s'.2 = s.2 ∧ ∀ k, k < (G + 1) * 144 → s'.1 90 k = 536870912 := by
  obtain ⟨s', e1, h1, h2, h3⟩ := qlp7 (fun f k (z : q_Mm) => l_X4_search_35 f (nI k) z) ((G + 1) * 144) 0 s (fun k z => (∀ q, ¬ q = 90 → z.1 q = s.1 q) ∧ z.2 = s.2 ∧ ∀ j, j < k → z.1 90 j = 536870912) (fun z => z) (by omega) (by omega) ⟨fun _ _ => rfl, rfl, fun j hj => by omega⟩
    (fun f z h => by
      show l_X4_search_35 (f + 1) _ _ = _
      unfold l_X4_search_35
      rw [h.1 89 (by decide), h6, nI_1, show (144 : Int32) = nI 144 from rfl, pk_mul, if_pos (nI_le (Nat.le_refl _) (by omega))])
    (fun f k z hk ⟨h1, h2, h3⟩ => by
      refine ⟨q_wi z 90 k 536870912, ?_, fun q hq => by rw [r_row hq]; exact h1 q hq, h2, fun j hj => ?_⟩
      · show l_X4_search_35 (f + 1) _ _ = l_X4_search_35 f _ _
        conv => lhs; unfold l_X4_search_35
        rw [h1 89 (by decide), h6, nI_1, show (144 : Int32) = nI 144 from rfl, pk_mul, if_neg (nI_ge hk (by omega)), if_pos (r_in (show k < 5904 by omega) (by decide)), r_cl (by omega), nI_1]
      · rw [r_wi]
        by_cases hjk : j = k
        · rw [if_pos ⟨rfl, hjk⟩]
        · rw [if_neg (fun w => hjk w.2)]
          exact h3 j (by omega))
  exact ⟨s', e1, h1, h2, h3⟩
/-- what stands after the search -/
def Fnd (I : Nat → Nat → Int32) (e : Int32) (G Id fm to S : Nat) (s : q_Mm) : Prop := ClM I e G Id fm to S s ∧ s.1 89 10 = nI (cvN (cfD I e (G + Id) to (G + Id) G fm)) ∧ ∀ g i c, g ≤ G → i ≤ Id → c < 144 → inW fm (G - g) c → inW to g c → Kok I e G Id to g i c s
theorem search9 {I : Nat → Nat → Int32} {e : Int32} {G Id fm to S : Nat} {s : q_Mm} (hC : ClS I e G Id fm to S) (h1 : ∀ q, ¬ q = 89 → ¬ q = 90 → s.1 q = I q) (h4 : s.1 89 4 = nI fm) (h5 : s.1 89 5 = nI to) (h8 : s.1 89 8 = e) (h9 : s.1 89 9 = nI S) : ∃ s', f_X4_search (nI G) (nI Id) s = some s' ∧ Fnd I e G Id fm to S s' := by
  have hGI := hC.2.2.1
  have hfm := hC.2.2.2.1
  have g1 : q_max 0 (q_min (nI G) 40) = nI G := by
    rw [r_eq, q_max_i, q_min_i, r_nI (by omega)]
    show max 0 (min (G : Int) 40) = _
    omega
  have g2 : q_max 0 (q_min (nI Id) (40 - nI G)) = nI Id := by
    rw [show (40 : Int32) = nI 40 from rfl, nI_sub' (by omega) (by omega), r_eq, q_max_i, q_min_i, r_nI (by omega), r_nI (by omega)]
    show max 0 (min (Id : Int) _) = _
    omega
  have e6 : (q_wi s 89 6 (nI G)).1 89 6 = nI G := by rw [r_wi, if_pos ⟨rfl, rfl⟩]
  obtain ⟨u, u1, u2, u3, u4⟩ := s35 (G := G) (s := q_wi (q_wi s 89 6 (nI G)) 89 7 (nI Id)) (by omega) (by rw [r_wi, if_neg (by omega)]; exact e6)
  have hMu : ClM I e G Id fm to S u := by
    refine ⟨fun q a b => by rw [u2 q b, r_row a, r_row a]; exact h1 q a b, ?_⟩
    rw [u2 89 (by decide)]
    refine ⟨h4, h5, rfl, rfl, h8, h9⟩
  obtain ⟨v, v1, w1, w2, w3, w4, w5⟩ := s65 hC (s := u) ⟨hMu, fun g' c a => by omega, fun a => by omega, fun g' c a b _ => u4 _ (by omega), fun g' i' c a b => by omega⟩
  have hf : v.1 90 (144 * G + fm) = nI (cvN (cfD I e (G + Id) to (G + Id) G fm)) := by
    have := w3 (by omega) G fm (by omega) (Nat.le_refl _) hfm (by unfold inW; omega)
    rw [show G + (Id + 1) - 1 = G + Id by omega] at this
    exact this
  refine ⟨q_wi v 89 10 (nI (cvN (cfD I e (G + Id) to (G + Id) G fm))), ?_, ⟨fun q a b => by rw [r_row a]; exact w1.1 q a b, ?_⟩, ?_, fun g i c a1 a2 a3 a4 a5 => w5 g i c a1 (by omega) a3 a4 a5⟩
  · unfold f_X4_search
    rw [g1, e6, g2, u1, Option.bind_some, v1, Option.bind_some, w1.2.2.2.1, w1.2.1, show nI G * 144 + nI fm = nI (144 * G + fm) by rw [show (144 : Int32) = nI 144 from rfl, pk_mul, nI_add, Nat.mul_comm], if_pos (r_in (show 144 * G + fm < 5904 by omega) (by decide)), r_cl (by omega), hf]
  · rw [r_wi, if_neg (by omega), r_wi, if_neg (by omega), r_wi, if_neg (by omega), r_wi, if_neg (by omega), r_wi, if_neg (by omega), r_wi, if_neg (by omega)]
    exact w1.2
  · rw [r_wi, if_pos ⟨rfl, rfl⟩]
