/-! PURE: routes: what the reference finds -/
theorem find71 {I : Nat → Nat → Int32} {e : Int32} {T F to c0 w K L : Nat} {s : q_Mm} {cost : Int32} (hK : Kn I e T F) (hw : w < 2) (hKT : K + T ≤ 40) (hwe : ¬ e = -1 → w = 1) (hO : Oc I s) (hR : ∀ day, day ≤ T → Rw I e T F to day s) (hL : rpE (frD I e.toInt T) (enD I e.toInt T to) (dgD I) T F c0 L) : ∃ s', l_X10_find_71 7000 (nI w) (nI K) cost (nI c0) (nI F) 0 (q_wi s 82 (41 * w + K) (nI c0)) = some (nI L, s') ∧ (∀ q, ¬ q = 82 → s'.1 q = s.1 q) ∧ ∀ j, s'.1 82 j = if 41 * w + K ≤ j ∧ j ≤ 41 * w + K + L then nI (rpP (frD I e.toInt T) (enD I e.toInt T to) (dgD I) T F c0 (j - (41 * w + K))).2 else s.1 82 j := by
  have hT : T ≤ 40 := hK.2.2.1
  have hF : F ≤ 40 := hK.2.2.2.1
  have hLT := hL.1
  obtain ⟨⟨x, y, s'⟩, e1, e2, e3, e4, e5, e6, e7⟩ := qlp7 (fun k n (z : Int32 × Int32 × q_Mm) => l_X10_find_71 k (nI w) (nI K) cost z.1 z.2.1 (nI n) z.2.2) L 0 (nI c0, nI F, q_wi s 82 (41 * w + K) (nI c0)) (fun n z => z.1 = nI (rpP (frD I e.toInt T) (enD I e.toInt T to) (dgD I) T F c0 n).2 ∧ z.2.1 = nI (rpP (frD I e.toInt T) (enD I e.toInt T to) (dgD I) T F c0 n).1 ∧ Oc I z.2.2 ∧ (∀ day, day ≤ T → Rw I e T F to day z.2.2) ∧ (∀ q, ¬ q = 82 → z.2.2.1 q = s.1 q) ∧ ∀ j, z.2.2.1 82 j = if 41 * w + K ≤ j ∧ j ≤ 41 * w + K + n then nI (rpP (frD I e.toInt T) (enD I e.toInt T to) (dgD I) T F c0 (j - (41 * w + K))).2 else s.1 82 j) (fun z => (nI L, z.2.2)) (by omega) (by omega)
    ⟨rfl, rfl, ⟨fun q hq hq2 => by rw [r_row hq2]; exact hO.1 q hq hq2, fun i hi hn => by
      have := hwe (by rw [← hK.1]; exact hn)
      rw [r_wi, if_neg (by omega)]
      exact hO.2 i hi hn⟩, fun day hd f t a b => by rw [r_row (by decide)]; exact hR day hd f t a b, fun q hq => by rw [r_row hq], fun j => by
      show (q_wi s 82 (41 * w + K) (nI c0)).1 82 j = _
      rw [r_wi]
      by_cases hj : j = 41 * w + K
      · rw [if_pos ⟨rfl, hj⟩, if_pos ⟨by omega, by omega⟩, hj, Nat.sub_self]
        rfl
      · rw [if_neg (fun v => hj v.2), if_neg (fun v => hj (by omega))]⟩
    (fun k z h => by
      obtain ⟨x, y, u⟩ := z
      obtain ⟨h1, h2, h3, h4, h5, h6⟩ := h
      dsimp only at h1 h2 h3 h4 h5 h6 ⊢
      obtain ⟨q1, q2, q3⟩ := hL.2.2.2 L (Nat.le_refl _)
      unfold l_X10_find_71
      rw [h1, h2, place10, if_pos (r_in (by omega) (by decide)), r_cl (by omega), h4 L hLT _ _ q3 q2, show cR I e T to (T - L) _ _ = 0 from dpC_e hL.2.2.1, if_pos (by decide)])
    (fun k n z hn h => by
      obtain ⟨x, y, u⟩ := z
      obtain ⟨h1, h2, h3, h4, h5, h6⟩ := h
      dsimp only at h1 h2 h3 h4 h5 h6 ⊢
      obtain ⟨q1, q2, q3⟩ := hL.2.2.2 n (by omega)
      have he := hL.2.1 n hn
      have hfm := first10 (to := to) h3 hK (show n < T by omega) q3 q2 (h4 n (by omega)) (h4 (n + 1) (by omega)) he q1
      have q1' := q1
      have he' := he
      rw [show T - n = (T - (n + 1)) + 1 by omega] at q1' he'
      obtain ⟨a1, a2, a3, a4, a5⟩ := dpStep he' q1' rfl
      have hle := cR_le (to := to) (d := T - n) (f := (rpP (frD I e.toInt T) (enD I e.toInt T to) (dgD I) T F c0 n).1) (c := (rpP (frD I e.toInt T) (enD I e.toInt T to) (dgD I) T F c0 n).2) hK (by omega)
      have hpos : ¬ nI (cR I e T to (T - n) (rpP (frD I e.toInt T) (enD I e.toInt T to) (dgD I) T F c0 n).1 (rpP (frD I e.toInt T) (enD I e.toInt T to) (dgD I) T F c0 n).2) ≤ 0 := by
        unfold dpN at hle
        rw [nI_le0 (by omega)]
        intro w0
        unfold cR at w0
        rw [show T - n = (T - (n + 1)) + 1 by omega, a5] at w0
        omega
      refine ⟨(nI (rpP (frD I e.toInt T) (enD I e.toInt T to) (dgD I) T F c0 (n + 1)).2, nI (rpP (frD I e.toInt T) (enD I e.toInt T to) (dgD I) T F c0 (n + 1)).1, q_wi u 82 (41 * w + K + (n + 1)) (nI (rpP (frD I e.toInt T) (enD I e.toInt T to) (dgD I) T F c0 (n + 1)).2)), ?_, rfl, rfl, ?_, ?_, ?_, ?_⟩
      · show l_X10_find_71 (k + 1) _ _ _ _ _ _ _ = l_X10_find_71 k _ _ _ _ _ _ _
        conv => lhs; unfold l_X10_find_71
        have ix : 41 * nI w + nI K + (nI n + 1) = nI (41 * w + K + (n + 1)) := by
          rw [show (41 : Int32) = nI 41 from rfl, pk_mul, nI_add, nI_1, nI_add]
        rw [h1, h2, place10, if_pos (r_in (by omega) (by decide)), r_cl (by omega), h4 n (by omega) _ _ q3 q2, if_neg hpos, hfm, Option.bind_some, ix, if_pos (r_in (show 41 * w + K + (n + 1) < 82 by omega) (by decide)), r_cl (show 41 * w + K + (n + 1) < 2 ^ 31 by omega), nI_1, if_pos (r_in (show 41 * w + K + (n + 1) < 82 by omega) (by decide)), rpP_s, rpS_1, rpS_2]
        generalize hz : rpP (frD I e.toInt T) (enD I e.toInt T to) (dgD I) T F c0 n = z at *
        generalize hm : dpG (frD I e.toInt T) (enD I e.toInt T to) (dgD I) (T - (n + 1)) z.1 z.2 = mm at *
        by_cases hm0 : mm = 0
        · subst hm0
          rw [dpT_0, if_pos rfl, if_pos rfl, Int32.sub_zero]
        · have ht := (dpT_xy (a3 hm0).1).2.2
          rw [if_neg (fun v => dpT_ne (a3 hm0).1 (by omega) a1 ((nI_eq (by omega) (by omega)).mp v)), if_neg hm0, nI_m1 (a3 hm0).2]
      · refine ⟨fun q hq hq2 => by dsimp only; rw [r_row hq2]; exact h3.1 q hq hq2, fun i hi hn => ?_⟩
        have := hwe (by rw [← hK.1]; exact hn)
        dsimp only
        rw [r_wi, if_neg (by omega)]
        exact h3.2 i hi hn
      · intro day hd f t a b
        dsimp only
        rw [r_row (by decide)]
        exact h4 day hd f t a b
      · intro q hq
        dsimp only
        rw [r_row hq]
        exact h5 q hq
      · intro j
        dsimp only
        rw [r_wi]
        by_cases hj : j = 41 * w + K + (n + 1)
        · rw [if_pos ⟨rfl, hj⟩, if_pos ⟨by omega, by omega⟩, hj, show 41 * w + K + (n + 1) - (41 * w + K) = n + 1 by omega]
        · rw [if_neg (fun v => hj v.2), h6 j]
          by_cases hj2 : 41 * w + K ≤ j ∧ j ≤ 41 * w + K + n
          · rw [if_pos hj2, if_pos ⟨by omega, by omega⟩]
          · rw [if_neg hj2, if_neg (fun v => hj2 (by omega))])
  exact ⟨s', e1, e6, e7⟩
theorem find10 {e : Int32} {T F to c0 w K : Nat} {s : q_Mm} (hK : Kn s.1 e T F) (hto : to < 144) (hc : c0 < 144) (hw : w < 2) (hKT : K + T ≤ 40) (hwe : ¬ e = -1 → w = 1) :
    ((fdB s.1 e.toInt c0 0 = false ∨ dpC (frD s.1 e.toInt T) (enD s.1 e.toInt T to) (dgD s.1) T F c0 = dpN) → ∃ s', f_X10_find (nI w) (nI c0) (nI to) (nI T) (nI F) (nI K) s = some (1000000000, s') ∧ ∀ q, ¬ q = 85 → s'.1 q = s.1 q) ∧
    (fdB s.1 e.toInt c0 0 = true → ¬ dpC (frD s.1 e.toInt T) (enD s.1 e.toInt T to) (dgD s.1) T F c0 = dpN → ∀ L, rpE (frD s.1 e.toInt T) (enD s.1 e.toInt T to) (dgD s.1) T F c0 L → ∃ s', f_X10_find (nI w) (nI c0) (nI to) (nI T) (nI F) (nI K) s = some (nI (dpC (frD s.1 e.toInt T) (enD s.1 e.toInt T to) (dgD s.1) T F c0), s') ∧ (∀ q, ¬ q = 82 → ¬ q = 83 → ¬ q = 84 → ¬ q = 85 → s'.1 q = s.1 q) ∧ (∀ j, s'.1 82 j = if 41 * w + K ≤ j ∧ j ≤ 41 * w + K + L then nI (rpP (frD s.1 e.toInt T) (enD s.1 e.toInt T to) (dgD s.1) T F c0 (j - (41 * w + K))).2 else s.1 82 j) ∧ (∀ j, s'.1 83 j = if j = w then nI (K + L) else s.1 83 j) ∧ ∀ j, s'.1 84 j = if j = w then 1 else s.1 84 j) := by
  have hT : T ≤ 40 := hK.2.2.1
  have hF : F ≤ 40 := hK.2.2.2.1
  have hfr := free10 (c := c0) (day := 0) (s := s) (by rw [hK.1]; exact hK.2.1) hc (by omega)
  rw [hK.1] at hfr
  obtain ⟨u, u1, u2, u3, u4⟩ := costs10 (to := to) (s := s) (I := s.1) ⟨fun _ _ _ => rfl, fun _ _ _ => rfl⟩ hK hto
  have hRu : ∀ q, ¬ q = 85 → u.1 q = s.1 q := u3.2
  have hcost : u.1 85 (144 * (41 * 0 + F) + c0) = nI (dpC (frD s.1 e.toInt T) (enD s.1 e.toInt T to) (dgD s.1) T F c0) := u4 0 (by omega) F c0 (Nat.le_refl _) hc
  have hpl : f_X10_placeOf 0 (nI F) (nI c0) u = nI (144 * (41 * 0 + F) + c0) := place10 (day := 0)
  have hle := cR_le (to := to) (d := T) (f := F) (c := c0) hK (by omega)
  unfold cR dpN at hle
  constructor
  · intro h
    unfold f_X10_find
    rw [show f_X10_isFree (nI c0) 0 s = _ from hfr, Option.bind_some]
    by_cases hf : fdB s.1 e.toInt c0 0 = true
    · rw [if_pos hf, if_neg (by decide), u1, Option.bind_some, hpl, if_pos (r_in (by omega) (by decide)), r_cl (by omega), hcost]
      rcases h with h | h
      · rw [hf] at h; cases h
      · rw [h, if_pos (by decide)]
        exact ⟨u, rfl, hRu⟩
    · rw [if_neg hf, if_pos rfl]
      exact ⟨s, rfl, fun _ _ => rfl⟩
  · intro hf hn L hL
    have hLT := hL.1
    obtain ⟨v, v1, v2, v3⟩ := find71 (s := u) (cost := nI (dpC (frD s.1 e.toInt T) (enD s.1 e.toInt T to) (dgD s.1) T F c0)) (K := K) hK hw hKT hwe u2 u4 hL
    refine ⟨q_wi (q_wi v 83 w (nI (K + L))) 84 w 1, ?_, ?_, ?_, ?_, ?_⟩
    · unfold f_X10_find
      rw [show f_X10_isFree (nI c0) 0 s = _ from hfr, Option.bind_some, if_pos hf, if_neg (by decide), u1, Option.bind_some, hpl, if_pos (r_in (by omega) (by decide)), r_cl (by omega), hcost, if_neg (show ¬ nI (dpC (frD s.1 e.toInt T) (enD s.1 e.toInt T to) (dgD s.1) T F c0) = 1000000000 from fun w => hn ((nI_eq (b := 1000000000) (by omega) (by decide)).mp w)), show 41 * nI w + nI K = nI (41 * w + K) by rw [show (41 : Int32) = nI 41 from rfl, pk_mul, nI_add], if_pos (r_in (show 41 * w + K < 82 by omega) (by decide)), r_cl (by omega), v1, Option.bind_some, if_pos (r_in hw (by decide)), if_pos (r_in hw (by decide)), r_cl (by omega), nI_add]
    · intro q a1 a2 a3 a4
      rw [r_row a3, r_row a2, v2 q a1, hRu q a4]
    · intro j
      rw [r_row (by decide), r_row (by decide), v3 j, hRu 82 (by decide)]
    · intro j
      rw [r_row (by decide), r_wi, v2 83 (by decide), hRu 83 (by decide)]
      by_cases hj : j = w
      · rw [if_pos ⟨rfl, hj⟩, if_pos hj]
      · rw [if_neg (fun v => hj v.2), if_neg hj]
    · intro j
      rw [r_wi, r_row (by decide), v2 84 (by decide), hRu 84 (by decide)]
      by_cases hj : j = w
      · rw [if_pos ⟨rfl, hj⟩, if_pos hj]
      · rw [if_neg (fun v => hj v.2), if_neg hj]
