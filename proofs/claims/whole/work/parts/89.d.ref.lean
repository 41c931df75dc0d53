/-! PURE: routes: the reference's costs -/
/-- what the reference's search knows: T days, fuel at most Fu, to the cell to -/
def Dg (I : Nat → Nat → Int32) : Prop := ∀ c, c < 144 → -1 ≤ (I 81 c).toInt ∧ (I 81 c).toInt ≤ 99
theorem dgD_le {I : Nat → Nat → Int32} (h : Dg I) (c : Nat) : dgD I c ≤ 99 := by
  unfold dgD
  split
  · rename_i w
    have := h c w
    omega
  · omega
theorem fdB_dg {I : Nat → Nat → Int32} {e : Int} {c day : Nat} (hc : c < 144) (h : fdB I e c day = true) : I 81 c = nI (dgD I c) := by
  unfold fdB at h
  rw [Bool.and_eq_true, decide_eq_true_eq] at h
  unfold dgD
  rw [if_pos hc, r_eq, r_nI (by have := r_hi (I 81 c); omega)]
  omega
/-- only the costs differ, and the path, but not if ROUTE A is looked at -/
def Oc (I : Nat → Nat → Int32) (s : q_Mm) : Prop := (∀ q, ¬ q = 85 → ¬ q = 82 → s.1 q = I q) ∧ ∀ i, i < 41 → ¬ I 58 42 = -1 → s.1 82 i = I 82 i
theorem Oc_caA {I : Nat → Nat → Int32} {s : q_Mm} (h : Oc I s) (k : Nat) : caA s.1 k = caA I k := by
  unfold caA
  rw [h.1 34 (by decide) (by decide), h.1 35 (by decide) (by decide)]
theorem Oc_fd {I : Nat → Nat → Int32} {s : q_Mm} (h : Oc I s) (e : Int) (c day : Nat) : fdB s.1 e c day = fdB I e c day := by
  unfold fdB aptB
  rw [h.1 81 (by decide) (by decide), Oc_caA h, Oc_caA h, Oc_caA h]
theorem Oc_Ge {I : Nat → Nat → Int32} {s : q_Mm} (h : Oc I s) {e : Int32} (he : I 58 42 = e) (hG : Ge I e) : Ge s.1 e := by
  by_cases h0 : e = -1
  · exact .inl h0
  · rcases hG with hG | ⟨a, b, d, d1, d2, d3, d4⟩
    · exact absurd hG h0
    · refine .inr ⟨a, b, d, d1, by rw [h.1 34 (by decide) (by decide)]; exact d2, by rw [h.1 83 (by decide) (by decide)]; exact d3, fun i hi => ?_⟩
      rw [h.1 35 (by decide) (by decide), h.2 i (by omega) (by rw [he]; exact h0)]
      exact d4 i hi
theorem place10 {day f c : Nat} {m : q_Mm} : f_X10_placeOf (nI day) (nI f) (nI c) m = nI (144 * (41 * day + f) + c) := by
  unfold f_X10_placeOf
  rw [show (144 : Int32) = nI 144 from rfl, show (41 : Int32) = nI 41 from rfl, pk_mul, nI_add, pk_mul, nI_add]
theorem by0 {I : Nat → Nat → Int32} {e : Int32} {T F to day f t : Nat} {s : q_Mm} (hO : Oc I s) (he : I 58 42 = e) (hG : Ge I e) (hT : T ≤ 40) (hF : F ≤ 40) (hday : day < T) (hf : f ≤ F) (ht : t < 144) (hR : ∀ f t, f ≤ F → t < 144 → s.1 85 (144 * (41 * (day + 1) + f) + t) = nI (dpC (frD I e.toInt T) (enD I e.toInt T to) (dgD I) (T - (day + 1)) f t)) (hD : Dg I) (q : Nat) :
    ((f_X10_isFree (nI t) (nI day + 1) s).bind fun r => if r = 0 then some (1000000000 : Int32) else if q_in (f_X10_placeOf (nI day + 1) (nI f) (nI t) s) 242064 = true then (if (s.1 85 (f_X10_placeOf (nI day + 1) (nI f) (nI t) s).toNatClampNeg) = 1000000000 then some 1000000000 else if q_in (nI t) 144 = true then some ((((s.1 85 (f_X10_placeOf (nI day + 1) (nI f) (nI t) s).toNatClampNeg) + (10000 * (s.1 81 (nI t).toNatClampNeg))) + 100) + nI q) else none) else none) = some (nI (dpA (dpF (frD I e.toInt T) (dpC (frD I e.toInt T) (enD I e.toInt T to) (dgD I) (T - (day + 1))) (T - (day + 1)) f t) (dgD I t) q)) := by
  have e1 : s.1 58 42 = e := by rw [hO.1 58 (by decide) (by decide)]; exact he
  have hG' : Ge s.1 (s.1 58 42) := by rw [e1]; exact Oc_Ge hO he hG
  rw [nI_1, free10 hG' ht (by omega), Option.bind_some, e1, Oc_fd hO]
  have hfr : frD I e.toInt T t (T - (day + 1)) = fdB I e.toInt t (day + 1) := by
    unfold frD
    rw [show T - (T - (day + 1)) = day + 1 by omega]
  have hW := dpC_W (fr := frD I e.toInt T) (en := enD I e.toInt T to) (dgD_le hD) (T - (day + 1)) (by omega) f t
  have hle := dpW_le hW (by omega)
  unfold dpF
  rw [hfr]
  by_cases hfd : fdB I e.toInt t (day + 1) = true
  · rw [if_pos hfd, if_neg (by decide), if_pos hfd, place10, if_pos (r_in (by omega) (by decide)), r_cl (by omega), hR f t hf ht, r_cl (show t < 2 ^ 31 by omega), if_pos (r_in ht (by decide)), hO.1 81 (by decide) (by decide), fdB_dg ht hfd]
    unfold dpA dpN at *
    generalize dpC (frD I e.toInt T) (enD I e.toInt T to) (dgD I) (T - (day + 1)) f t = v at *
    by_cases hv : v = 1000000000
    · rw [if_pos (show nI v = 1000000000 by rw [hv]; rfl), if_pos hv]
      rfl
    · rw [if_neg (show ¬ nI v = 1000000000 from fun w => hv ((nI_eq (b := 1000000000) (by omega) (by decide)).mp w)), if_neg hv, show (10000 : Int32) = nI 10000 from rfl, show (100 : Int32) = nI 100 from rfl, pk_mul, nI_add, nI_add, nI_add]
  · rw [if_neg hfd, if_pos rfl, if_neg hfd]
    unfold dpA
    rw [if_pos rfl]
    rfl
theorem byS {I : Nat → Nat → Int32} {e : Int32} {T F to day f c : Nat} {s : q_Mm} (hO : Oc I s) (he : I 58 42 = e) (hG : Ge I e) (hT : T ≤ 40) (hF : F ≤ 40) (hday : day < T) (hf : f ≤ F) (hc : c < 144) (hR : ∀ f t, f ≤ F → t < 144 → s.1 85 (144 * (41 * (day + 1) + f) + t) = nI (dpC (frD I e.toInt T) (enD I e.toInt T to) (dgD I) (T - (day + 1)) f t)) (hD : Dg I) : f_X10_byMove (nI day) (nI f) (nI c) (nI c) s = some (nI (dpB (frD I e.toInt T) (dgD I) (dpC (frD I e.toInt T) (enD I e.toInt T to) (dgD I) (T - (day + 1))) (T - (day + 1)) f c 0)) := by
  have h := by0 (f := f) hO he hG hT hF hday hf hc hR hD 0
  unfold f_X10_byMove dpB
  rw [if_pos rfl, if_pos rfl, if_pos rfl]
  simp only [if_true]
  exact h
theorem byG {I : Nat → Nat → Int32} {e : Int32} {T F to day f c m : Nat} {s : q_Mm} (hO : Oc I s) (he : I 58 42 = e) (hG : Ge I e) (hT : T ≤ 40) (hF : F ≤ 40) (hday : day < T) (hf : f ≤ F) (hc : c < 144) (hR : ∀ f t, f ≤ F → t < 144 → s.1 85 (144 * (41 * (day + 1) + f) + t) = nI (dpC (frD I e.toInt T) (enD I e.toInt T to) (dgD I) (T - (day + 1)) f t)) (hD : Dg I) (hm : 1 ≤ m) (hm' : m ≤ 8) (hv : dpV c m) : f_X10_byMove (nI day) (nI f) (nI c) (nI (dpT c m)) s = some (nI (dpB (frD I e.toInt T) (dgD I) (dpC (frD I e.toInt T) (enD I e.toInt T to) (dgD I) (T - (day + 1))) (T - (day + 1)) f c m)) := by
  have ht := (dpT_xy hv).2.2
  have hne := dpT_ne hv hm hm'
  unfold f_X10_byMove dpB
  rw [if_neg (fun w => hne ((nI_eq (by omega) (by omega)).mp w).symm), if_neg (by decide), if_neg (show ¬ m = 0 by omega)]
  by_cases hf0 : f = 0
  · subst hf0
    rw [if_pos (show nI 0 = 0 from rfl), if_neg (fun w => absurd w.2 (by decide))]
    rfl
  · rw [if_neg (show ¬ nI f = 0 from fun w => hf0 ((nI_eq (b := 0) (by omega) (by decide)).mp w)), if_pos (show dpV c m ∧ 0 < f from ⟨hv, by omega⟩)]
    have h := by0 (f := f - 1) hO he hG hT hF hday (by omega) ht hR hD 1
    rw [← h, nI_m1 (by omega)]
    simp only [show ¬ ((1 : Int32) = 0) by decide, if_false]
    rfl
