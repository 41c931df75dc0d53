/-! PURE: routes: the reference's cheapest move -/
def cR (I : Nat → Nat → Int32) (e : Int32) (T to d f c : Nat) : Nat := dpC (frD I e.toInt T) (enD I e.toInt T to) (dgD I) d f c
def bR (I : Nat → Nat → Int32) (e : Int32) (T to d f c m : Nat) : Nat := dpB (frD I e.toInt T) (dgD I) (dpC (frD I e.toInt T) (enD I e.toInt T to) (dgD I) d) d f c m
def Kn (I : Nat → Nat → Int32) (e : Int32) (T F : Nat) : Prop := I 58 42 = e ∧ Ge I e ∧ T ≤ 40 ∧ F ≤ 40 ∧ Dg I
/-- the costs of one day stand -/
def Rw (I : Nat → Nat → Int32) (e : Int32) (T F to day : Nat) (s : q_Mm) : Prop := ∀ f t, f ≤ F → t < 144 → s.1 85 (144 * (41 * day + f) + t) = nI (cR I e T to (T - day) f t)
theorem bR_le {I : Nat → Nat → Int32} {e : Int32} {T F to d f c m : Nat} (hK : Kn I e T F) (hd : d ≤ 40) : bR I e T to d f c m ≤ dpN := dpW_le (dpB_W (dgD_le hK.2.2.2.2) (fun f t => dpC_W (dgD_le hK.2.2.2.2) d (by omega) f t) (by omega)) (by omega)
theorem cR_le {I : Nat → Nat → Int32} {e : Int32} {T F to d f c : Nat} (hK : Kn I e T F) (hd : d ≤ 40) : cR I e T to d f c ≤ dpN := dpW_le (dpC_W (dgD_le hK.2.2.2.2) d (by omega) f c) (by omega)
theorem body10 {α : Type} {I : Nat → Nat → Int32} {e : Int32} {T F to day f c m v : Nat} {s : q_Mm} (hO : Oc I s) (hK : Kn I e T F) (hday : day < T) (hf : f ≤ F) (hc : c < 144) (hR : Rw I e T F to (day + 1) s) (hm : 1 ≤ m) (hm' : m ≤ 8) (hv : v ≤ dpN) {dx dy : Int32} (hx : dx.toInt = dpX m) (hy : dy.toInt = dpY m) (L : Int32 → Option α) :
    (if (f_X10_in (((q_rm (nI c) 12) + dx).toInt64) 0 11 s) = 0 then L (nI v) else if (f_X10_in (((nI c / 12) + dy).toInt64) 0 11 s) = 0 then L (nI v) else (f_X10_byMove (nI day) (nI f) (nI c) ((12 * ((nI c / 12) + dy)) + ((q_rm (nI c) 12) + dx)) s).bind fun r => if nI v ≤ r then L (nI v) else L r) = L (nI (if bR I e T to (T - (day + 1)) f c m < v then bR I e T to (T - (day + 1)) f c m else v)) := by
  have h1 := dpX_in m
  have h2 := dpY_in m
  have ex : (nI (c % 12) + dx).toInt = ((c % 12 : Nat) : Int) + dpX m := by
    rw [Int32.toInt_add, r_nI (by omega), hx, Int.bmod_eq_of_le (by omega) (by omega)]
  have ey : (nI (c / 12) + dy).toInt = ((c / 12 : Nat) : Int) + dpY m := by
    rw [Int32.toInt_add, r_nI (by omega), hy, Int.bmod_eq_of_le (by omega) (by omega)]
  have bl := bR_le (to := to) (d := T - (day + 1)) (f := f) (c := c) (m := m) hK (by have := hK.2.2.1; omega)
  have i1 : ∀ x : Int32, f_X10_in x.toInt64 0 11 s = 0 ↔ ¬ (0 ≤ x.toInt ∧ x.toInt ≤ 11) := fun x => r_inn
  rw [rem12 (by omega), div12 (by omega)]
  by_cases hV : dpV c m
  · have hT := dpT_xy hV
    have et : 12 * (nI (c / 12) + dy) + (nI (c % 12) + dx) = nI (dpT c m) := by
      have e12 : (12 * (nI (c / 12) + dy)).toInt = 12 * (((c / 12 : Nat) : Int) + dpY m) := by
        rw [Int32.toInt_mul, ey, show (12 : Int32).toInt = 12 from rfl, Int.bmod_eq_of_le (by omega) (by omega)]
      rw [r_eq, Int32.toInt_add, e12, ex, r_nI (by omega), Int.bmod_eq_of_le (by omega) (by omega)]
      omega
    have hb := byG hO hK.1 hK.2.1 hK.2.2.1 hK.2.2.2.1 hday hf hc hR hK.2.2.2.2 hm hm' hV
    rw [if_neg (fun w => (i1 _).mp w (by rw [ex]; exact ⟨hV.1, hV.2.1⟩)), if_neg (fun w => (i1 _).mp w (by rw [ey]; exact ⟨hV.2.2.1, hV.2.2.2⟩)), et, hb, Option.bind_some]
    show (if nI v ≤ nI (bR I e T to (T - (day + 1)) f c m) then _ else L (nI (bR I e T to (T - (day + 1)) f c m))) = _
    unfold dpN at *
    by_cases hlt : bR I e T to (T - (day + 1)) f c m < v
    · rw [if_neg (nI_ge hlt (by omega)), if_pos hlt]
    · rw [if_pos (nI_le (by omega) (by omega)), if_neg hlt]
  · have hb : bR I e T to (T - (day + 1)) f c m = dpN := by
      unfold bR dpB
      rw [if_neg (by omega), if_neg (fun w => hV w.1)]
    rw [hb, if_neg (show ¬ dpN < v by omega)]
    by_cases hX : 0 ≤ ((c % 12 : Nat) : Int) + dpX m ∧ ((c % 12 : Nat) : Int) + dpX m ≤ 11
    · rw [if_neg (fun w => (i1 _).mp w (by rw [ex]; exact hX)), if_pos ((i1 _).mpr (by rw [ey]; intro w; exact hV ⟨hX.1, hX.2, w⟩))]
    · rw [if_pos ((i1 _).mpr (by rw [ex]; exact hX))]
theorem ch_s {I : Nat → Nat → Int32} {e : Int32} {T F to day f c m v k : Nat} {s : q_Mm} (hO : Oc I s) (hK : Kn I e T F) (hday : day < T) (hf : f ≤ F) (hc : c < 144) (hR : Rw I e T F to (day + 1) s) (hm : 1 ≤ m) (hm' : m ≤ 8) (hv : v ≤ dpN) {dx dy : Int32} (hx : dx.toInt = dpX m) (hy : dy.toInt = dpY m) (h2 : ¬ (2 : Int32) ≤ dx) (h0 : dx = 0 → ¬ dy = 0) : l_X10_cheapest_22 (k + 1) (nI day) (nI f) (nI c) (nI v) dy dx s = l_X10_cheapest_22 k (nI day) (nI f) (nI c) (nI (if bR I e T to (T - (day + 1)) f c m < v then bR I e T to (T - (day + 1)) f c m else v)) dy (dx + 1) s := by
  have h := body10 (to := to) hO hK hday hf hc hR hm hm' hv hx hy (fun a => l_X10_cheapest_22 k (nI day) (nI f) (nI c) a dy (dx + 1) s)
  conv => lhs; unfold l_X10_cheapest_22
  rw [if_neg h2]
  by_cases hd : dx = 0
  · rw [if_pos hd, if_neg (h0 hd)]
    exact h
  · rw [if_neg hd]
    exact h
theorem cheap10 {I : Nat → Nat → Int32} {e : Int32} {T F to day f c : Nat} {s : q_Mm} (hO : Oc I s) (hK : Kn I e T F) (hday : day < T) (hf : f ≤ F) (hc : c < 144) (hR : Rw I e T F to (day + 1) s) : f_X10_cheapest (nI day) (nI f) (nI c) s = some (nI (dpM (bR I e T to (T - (day + 1)) f c) 8)) := by
  have hb := byS hO hK.1 hK.2.1 hK.2.2.1 hK.2.2.2.1 hday hf hc hR hK.2.2.2.2
  have hle : ∀ k, dpM (bR I e T to (T - (day + 1)) f c) k ≤ dpN := fun k => Nat.le_trans (dpM_le k 0 (by omega)) (bR_le hK (by have := hK.2.2.1; omega))
  have st : ∀ (k j : Nat) (dx dy : Int32), j + 1 ≤ 8 → dx.toInt = dpX (j + 1) → dy.toInt = dpY (j + 1) → ¬ (2 : Int32) ≤ dx → (dx = 0 → ¬ dy = 0) → l_X10_cheapest_22 (k + 1) (nI day) (nI f) (nI c) (nI (dpM (bR I e T to (T - (day + 1)) f c) j)) dy dx s = l_X10_cheapest_22 k (nI day) (nI f) (nI c) (nI (dpM (bR I e T to (T - (day + 1)) f c) (j + 1))) dy (dx + 1) s := fun k j dx dy a1 a2 a3 a4 a5 => ch_s hO hK hday hf hc hR (by omega) a1 (hle j) a2 a3 a4 a5
  have fin : ∀ (k j : Nat) (dy : Int32), l_X10_cheapest_22 (k + 1) (nI day) (nI f) (nI c) (nI (dpM (bR I e T to (T - (day + 1)) f c) j)) dy 2 s = some (nI (dpM (bR I e T to (T - (day + 1)) f c) j)) := fun k j dy => by
    unfold l_X10_cheapest_22
    rw [if_pos (by decide)]
  have r1 : l_X10_cheapest_22 7000 (nI day) (nI f) (nI c) (nI (dpM (bR I e T to (T - (day + 1)) f c) 0)) (-1) (-1) s = some (nI (dpM (bR I e T to (T - (day + 1)) f c) 3)) := by
    rw [show (7000 : Nat) = 6999 + 1 from rfl, st 6999 0 (-1) (-1) (by decide) (by decide) (by decide) (by decide) (by decide), show ((-1 : Int32) + 1) = 0 from rfl, show (6999 : Nat) = 6998 + 1 from rfl, st 6998 1 0 (-1) (by decide) (by decide) (by decide) (by decide) (by decide), show ((0 : Int32) + 1) = 1 from rfl, show (6998 : Nat) = 6997 + 1 from rfl, st 6997 2 1 (-1) (by decide) (by decide) (by decide) (by decide) (by decide), show ((1 : Int32) + 1) = 2 from rfl, show (6997 : Nat) = 6996 + 1 from rfl, fin]
  have sk : ∀ (k j : Nat), l_X10_cheapest_22 (k + 1) (nI day) (nI f) (nI c) (nI (dpM (bR I e T to (T - (day + 1)) f c) j)) 0 0 s = l_X10_cheapest_22 k (nI day) (nI f) (nI c) (nI (dpM (bR I e T to (T - (day + 1)) f c) j)) 0 1 s := fun k j => by
    conv => lhs; unfold l_X10_cheapest_22
    rw [if_neg (by decide), if_pos rfl, if_pos rfl]
    rfl
  have r2 : l_X10_cheapest_22 7000 (nI day) (nI f) (nI c) (nI (dpM (bR I e T to (T - (day + 1)) f c) 3)) 0 (-1) s = some (nI (dpM (bR I e T to (T - (day + 1)) f c) 5)) := by
    rw [show (7000 : Nat) = 6999 + 1 from rfl, st 6999 3 (-1) 0 (by decide) (by decide) (by decide) (by decide) (by decide), show ((-1 : Int32) + 1) = 0 from rfl, show (6999 : Nat) = 6998 + 1 from rfl, sk, show (6998 : Nat) = 6997 + 1 from rfl, st 6997 4 1 0 (by decide) (by decide) (by decide) (by decide) (by decide), show ((1 : Int32) + 1) = 2 from rfl, show (6997 : Nat) = 6996 + 1 from rfl, fin]
  have r3 : l_X10_cheapest_22 7000 (nI day) (nI f) (nI c) (nI (dpM (bR I e T to (T - (day + 1)) f c) 5)) 1 (-1) s = some (nI (dpM (bR I e T to (T - (day + 1)) f c) 8)) := by
    rw [show (7000 : Nat) = 6999 + 1 from rfl, st 6999 5 (-1) 1 (by decide) (by decide) (by decide) (by decide) (by decide), show ((-1 : Int32) + 1) = 0 from rfl, show (6999 : Nat) = 6998 + 1 from rfl, st 6998 6 0 1 (by decide) (by decide) (by decide) (by decide) (by decide), show ((0 : Int32) + 1) = 1 from rfl, show (6998 : Nat) = 6997 + 1 from rfl, st 6997 7 1 1 (by decide) (by decide) (by decide) (by decide) (by decide), show ((1 : Int32) + 1) = 2 from rfl, show (6997 : Nat) = 6996 + 1 from rfl, fin]
  have o : ∀ (k : Nat) (v v' : Int32) (dy : Int32), ¬ (2 : Int32) ≤ dy → l_X10_cheapest_22 7000 (nI day) (nI f) (nI c) v dy (-1) s = some v' → l_X10_cheapest_13 (k + 1) (nI day) (nI f) (nI c) v dy s = l_X10_cheapest_13 k (nI day) (nI f) (nI c) v' (dy + 1) s := fun k v v' dy a1 a2 => by
    conv => lhs; unfold l_X10_cheapest_13
    rw [if_neg a1, a2, Option.bind_some]
  unfold f_X10_cheapest
  rw [hb, Option.bind_some]
  show ((l_X10_cheapest_13 7000 (nI day) (nI f) (nI c) (nI (dpM (bR I e T to (T - (day + 1)) f c) 0)) (-1) s).bind fun r => some r) = _
  have a1 := o 6999 _ _ (-1) (by decide) r1
  have a2 := o 6998 _ _ 0 (by decide) r2
  have a3 := o 6997 _ _ 1 (by decide) r3
  have a4 : l_X10_cheapest_13 6997 (nI day) (nI f) (nI c) (nI (dpM (bR I e T to (T - (day + 1)) f c) 8)) (1 + 1) s = some (nI (dpM (bR I e T to (T - (day + 1)) f c) 8)) := by
    show l_X10_cheapest_13 (6996 + 1) _ _ _ _ _ _ = _
    unfold l_X10_cheapest_13
    rw [if_pos (by decide)]
  rw [show l_X10_cheapest_13 7000 (nI day) (nI f) (nI c) (nI (dpM (bR I e T to (T - (day + 1)) f c) 0)) (-1) s = _ from a1, show l_X10_cheapest_13 6999 (nI day) (nI f) (nI c) (nI (dpM (bR I e T to (T - (day + 1)) f c) 3)) (-1 + 1) s = _ from a2, show l_X10_cheapest_13 6998 (nI day) (nI f) (nI c) (nI (dpM (bR I e T to (T - (day + 1)) f c) 5)) (0 + 1) s = _ from a3, a4]
  rfl
