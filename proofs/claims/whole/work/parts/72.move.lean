/-! PURE: how a ship goes in a minute -/
def m00 : q_Mm := (fun _ _ => 0, fun _ _ => 0)
/-- ahead and across by a COURSE -/
def vX (c : Int32) : Int32 := f_X10_alongOf c m00
def vY (c : Int32) : Int32 := f_X10_acrossOf c m00
theorem c9 {x : Int32} (h : -4 ≤ x.toInt ∧ x.toInt ≤ 4) : x = -4 ∨ x = -3 ∨ x = -2 ∨ x = -1 ∨ x = 0 ∨ x = 1 ∨ x = 2 ∨ x = 3 ∨ x = 4 := by
  simp only [r_eq, show (-4 : Int32).toInt = -4 from rfl, show (-3 : Int32).toInt = -3 from rfl, show (-2 : Int32).toInt = -2 from rfl, show (-1 : Int32).toInt = -1 from rfl, show (0 : Int32).toInt = 0 from rfl, show (1 : Int32).toInt = 1 from rfl, show (2 : Int32).toInt = 2 from rfl, show (3 : Int32).toInt = 3 from rfl, show (4 : Int32).toInt = 4 from rfl]
  omega
theorem paceX {x : Int32} (m : q_Mm) (h : -4 ≤ x.toInt ∧ x.toInt ≤ 4) : f_X9_pace x 0 m = some (vX x) := by
  rcases c9 h with rfl | rfl | rfl | rfl | rfl | rfl | rfl | rfl | rfl <;> rfl
theorem paceY {x : Int32} (m : q_Mm) (h : -4 ≤ x.toInt ∧ x.toInt ≤ 4) : f_X9_pace x 1 m = some (vY x) := by
  rcases c9 h with rfl | rfl | rfl | rfl | rfl | rfl | rfl | rfl | rfl <;> rfl
theorem vX_in {x : Int32} (h : -4 ≤ x.toInt ∧ x.toInt ≤ 4) : 0 ≤ (vX x).toInt ∧ (vX x).toInt ≤ 1000 := by
  rcases c9 h with rfl | rfl | rfl | rfl | rfl | rfl | rfl | rfl | rfl <;> decide
theorem vY_in {x : Int32} (h : -4 ≤ x.toInt ∧ x.toInt ≤ 4) : -1000 ≤ (vY x).toInt ∧ (vY x).toInt ≤ 1000 := by
  rcases c9 h with rfl | rfl | rfl | rfl | rfl | rfl | rfl | rfl | rfl <;> decide
/-- a product of small ints, as a long -/
theorem mul64 {x y : Int32} (hx : -1000 ≤ x.toInt ∧ x.toInt ≤ 1000) (hy : -1000 ≤ y.toInt ∧ y.toInt ≤ 1000) : (x * y).toInt64 = y.toInt64 * x.toInt64 := by
  have hb : -1000000 ≤ x.toInt * y.toInt ∧ x.toInt * y.toInt ≤ 1000000 := by
    have h1 : x.toInt.natAbs ≤ 1000 := by omega
    have h2 : y.toInt.natAbs ≤ 1000 := by omega
    have h3 := Nat.mul_le_mul h1 h2
    rw [← Int.natAbs_mul] at h3
    omega
  apply Int64.toInt_inj.mp
  rw [r_64, Int32.toInt_mul, Int64.toInt_mul, r_64, r_64, Int.bmod_eq_of_le (by omega) (by omega), Int.mul_comm y.toInt, Int.bmod_eq_of_le (by omega) (by omega)]
/-- the COURSE that a ship holds in minute t -/
def crs (f0 f1 ck : Int) (mi co ms : Nat → Int32) (c t : Nat) : Int32 := if f0 ≤ (t : Int) ∧ (t : Int) < f1 then 0 else if (t : Int) + ck < 0 then 0 else hd mi co (nI (((t : Int) + ck).toNat % 60)) (ms (((t : Int) + ck).toNat / 60)) c
theorem hd_in {mi co : Nat → Int32} {mo ms : Int32} : ∀ c, (∀ i, i < c → -4 ≤ (co i).toInt ∧ (co i).toInt ≤ 4) → -4 ≤ (hd mi co mo ms c).toInt ∧ (hd mi co mo ms c).toInt ≤ 4 := by
  intro c
  induction c with
  | zero => intro _; exact (by decide : -4 ≤ (0 : Int32).toInt ∧ (0 : Int32).toInt ≤ 4)
  | succ c ih =>
    intro h
    unfold hd
    split
    · exact h c (by omega)
    · exact ih (fun i hi => h i (by omega))
theorem crs_in {f0 f1 ck : Int} {mi co ms : Nat → Int32} {c t : Nat} (h : ∀ i, i < c → -4 ≤ (co i).toInt ∧ (co i).toInt ≤ 4) : -4 ≤ (crs f0 f1 ck mi co ms c t).toInt ∧ (crs f0 f1 ck mi co ms c t).toInt ≤ 4 := by
  unfold crs
  split
  · exact ⟨by decide, by decide⟩
  · split
    · exact ⟨by decide, by decide⟩
    · exact hd_in c h
theorem crs_congr {f0 f1 ck : Int} {mi co ms mi' co' ms' : Nat → Int32} {c t : Nat} (h : ∀ i, i < c → mi' i = mi i ∧ co' i = co i) (hm : ∀ h, h < 11 → ms' h = ms h) (ht : t ≤ 600) (hk : ck ≤ 5) : crs f0 f1 ck mi' co' ms' c t = crs f0 f1 ck mi co ms c t := by
  unfold crs
  rw [hd_congr c h, hm _ (by omega)]
theorem hides9 {m : q_Mm} {t : Nat} (ht : t < 2 ^ 31) : f_X1_hides (nI t) m = 0 ↔ ¬ ((m.1 2 0).toInt ≤ (t : Int) ∧ (t : Int) < (m.1 2 1).toInt) := by
  unfold f_X1_hides
  by_cases h1 : nI t < m.1 2 0
  · rw [if_pos h1]; rw [r_lt, r_nI ht] at h1; simp; omega
  · rw [if_neg h1]
    by_cases h2 : m.1 2 1 ≤ nI t
    · rw [if_pos h2]; rw [r_lt, r_nI ht] at h1; rw [r_le, r_nI ht] at h2; simp; omega
    · rw [if_neg h2]; rw [r_lt, r_nI ht] at h1; rw [r_le, r_nI ht] at h2; simp; omega
theorem add_ck {t : Nat} {ck : Int32} (ht : t ≤ 600) (hk : -5 ≤ ck.toInt ∧ ck.toInt ≤ 5) : (nI t + ck).toInt = (t : Int) + ck.toInt := by
  rw [Int32.toInt_add, r_nI (by omega), Int.bmod_eq_of_le (by omega) (by omega)]
theorem shipHead9 {m : q_Mm} {a b c r : Nat} (hc : c ≤ 12) (e : m.1 b 2 = nI c) (hs : ∀ i j, i < j → j < c → (m.1 (b + 1) i).toInt < (m.1 (b + 1) j).toInt) (hr : r < 660) : f_X7_heading a b (nI r) m = some (hd (m.1 (b + 1)) (m.1 (b + 2)) (nI (r % 60)) (if r / 60 < 10 then m.1 (a + 1) (r / 60) else 0) c) := by
  unfold f_X7_heading
  rw [if_pos (nI_pos' (by omega)), div60 (by omega), rem60 (by omega)]
  by_cases h : r / 60 < 10
  · rw [if_neg (show ¬ (10 : Int32) ≤ nI (r / 60) from nI_ge (b := 10) (by omega) (by omega)), if_pos (r_in h (by decide)), r_cl (by omega), heading9 hc e hs, if_pos h]
    rfl
  · rw [if_pos (show (10 : Int32) ≤ nI (r / 60) from nI_le (a := 10) (by omega) (by omega)), heading9 hc e hs, if_neg h]
    rfl
theorem move_fin (m : q_Mm) (a : Nat) {cc : Int32} (hin : -4 ≤ cc.toInt ∧ cc.toInt ≤ 4) : ((f_X9_pace cc 0 m).bind fun r3 => (f_X9_pace cc 1 (q_wl m a 5 (m.2 a 5 + (m.1 a 2 * r3).toInt64))).bind fun r5 => some (q_wl (q_wl m a 5 (m.2 a 5 + (m.1 a 2 * r3).toInt64)) a 6 ((q_wl m a 5 (m.2 a 5 + (m.1 a 2 * r3).toInt64)).2 a 6 + ((q_wl m a 5 (m.2 a 5 + (m.1 a 2 * r3).toInt64)).1 a 2 * r5).toInt64))) = some (q_wl (q_wl m a 5 (m.2 a 5 + (m.1 a 2 * vX cc).toInt64)) a 6 (m.2 a 6 + (m.1 a 2 * vY cc).toInt64)) := by
  rw [paceX m hin, Option.bind_some, paceY _ hin, Option.bind_some, r_wl1, r_wl2, if_neg (by omega)]
theorem move_hd {m : q_Mm} {a b c t : Nat} (hc : c ≤ 12) (e : m.1 b 2 = nI c) (hs : ∀ i j, i < j → j < c → (m.1 (b + 1) i).toInt < (m.1 (b + 1) j).toInt) (hk : -5 ≤ (m.1 a 3).toInt ∧ (m.1 a 3).toInt ≤ 5) (ht : t ≤ 600) (hf : ¬ ((m.1 2 0).toInt ≤ (t : Int) ∧ (t : Int) < (m.1 2 1).toInt)) : f_X7_heading a b (nI t + m.1 a 3) m = some (crs (m.1 2 0).toInt (m.1 2 1).toInt (m.1 a 3).toInt (m.1 (b + 1)) (m.1 (b + 2)) (fun h => if h < 10 then m.1 (a + 1) h else 0) c t) := by
  have ha := add_ck ht hk
  unfold crs
  rw [if_neg hf]
  by_cases hn : (t : Int) + (m.1 a 3).toInt < 0
  · rw [if_pos hn]
    unfold f_X7_heading
    rw [if_neg (fun z => by rw [r_le, ha] at z; have : (0 : Int32).toInt = 0 := rfl; omega)]
  · rw [if_neg hn]
    have hr : nI t + m.1 a 3 = nI ((t : Int) + (m.1 a 3).toInt).toNat := by
      rw [r_eq, ha, r_nI (by omega)]
      omega
    rw [hr, shipHead9 hc e hs (by omega)]
theorem move9 {m : q_Mm} {a b c t : Nat} (hc : c ≤ 12) (e : m.1 b 2 = nI c) (hs : ∀ i j, i < j → j < c → (m.1 (b + 1) i).toInt < (m.1 (b + 1) j).toInt) (hco : ∀ i, i < c → -4 ≤ (m.1 (b + 2) i).toInt ∧ (m.1 (b + 2) i).toInt ≤ 4) (hk : -5 ≤ (m.1 a 3).toInt ∧ (m.1 a 3).toInt ≤ 5) (ht : t ≤ 600) {cc : Int32} (hcc : crs (m.1 2 0).toInt (m.1 2 1).toInt (m.1 a 3).toInt (m.1 (b + 1)) (m.1 (b + 2)) (fun h => if h < 10 then m.1 (a + 1) h else 0) c t = cc) : f_X7_move a b (nI t) m = some (q_wl (q_wl m a 5 (m.2 a 5 + (m.1 a 2 * vX cc).toInt64)) a 6 (m.2 a 6 + (m.1 a 2 * vY cc).toInt64)) := by
  have hin : -4 ≤ cc.toInt ∧ cc.toInt ≤ 4 := by rw [← hcc]; exact crs_in hco
  unfold f_X7_move
  by_cases hf : (m.1 2 0).toInt ≤ (t : Int) ∧ (t : Int) < (m.1 2 1).toInt
  · have h0 : cc = 0 := by rw [← hcc]; unfold crs; rw [if_pos hf]
    rw [if_neg (fun z => (hides9 (by omega)).mp z hf)]
    rw [h0] at hin ⊢
    exact move_fin m a hin
  · rw [if_pos ((hides9 (by omega)).mpr hf), move_hd hc e hs hk ht hf, hcc, Option.bind_some]
    exact move_fin m a hin
theorem go10 (c sp : Int32) (m : q_Mm) : f_X10_go c sp m = q_wl (q_wl m 58 5 (m.2 58 5 + (vX c).toInt64 * sp.toInt64)) 58 6 (m.2 58 6 + (vY c).toInt64 * sp.toInt64) := rfl
theorem step10 {m : q_Mm} {p c t : Nat} {ck sp : Int32} (hp : p < 4) (e0 : m.1 58 3 = nI p) (hc : c ≤ 12) (e : m.1 61 p = nI c) (hk : -5 ≤ ck.toInt ∧ ck.toInt ≤ 5) (ht : t ≤ 600) {cc : Int32} (hcc : crs (m.1 58 16).toInt (m.1 58 17).toInt ck.toInt (fun j => m.1 59 (12 * p + j)) (fun j => m.1 60 (12 * p + j)) (m.1 62) c t = cc) : f_X10_step (nI t) ck sp m = some (q_wl (q_wl m 58 5 (m.2 58 5 + (vX cc).toInt64 * sp.toInt64)) 58 6 (m.2 58 6 + (vY cc).toInt64 * sp.toInt64)) := by
  rw [← go10]
  have ha := add_ck ht hk
  unfold crs at hcc
  have key : ¬ ((m.1 58 16).toInt ≤ (t : Int) ∧ (t : Int) < (m.1 58 17).toInt) → (f_X10_courseAt (m.1 58 3) (nI t + ck) m).bind (fun r => some (f_X10_go r sp m)) = some (f_X10_go cc sp m) := by
    intro hf
    rw [if_neg hf] at hcc
    by_cases hn : (t : Int) + ck.toInt < 0
    · rw [if_pos hn] at hcc
      subst hcc
      have hh : f_X10_courseAt (m.1 58 3) (nI t + ck) m = some 0 := by
        unfold f_X10_courseAt
        rw [if_neg (fun z => by rw [r_le, ha] at z; have : (0 : Int32).toInt = 0 := rfl; omega)]
      rw [hh]
      rfl
    · rw [if_neg hn] at hcc
      have hr : nI t + ck = nI ((t : Int) + ck.toInt).toNat := by
        rw [r_eq, ha, r_nI (by omega)]
        omega
      rw [hr, e0, courseAt10 hp hc e (by omega), hcc]
      rfl
  unfold f_X10_step
  by_cases h1 : nI t < m.1 58 16
  · rw [if_pos h1, if_pos rfl]
    rw [r_lt, r_nI (by omega)] at h1
    exact key (by omega)
  · rw [if_neg h1]
    by_cases h2 : m.1 58 17 ≤ nI t
    · rw [if_pos h2, if_pos rfl]
      rw [r_le, r_nI (by omega)] at h2
      exact key (by omega)
    · rw [if_neg h2, if_neg (by decide)]
      rw [r_lt, r_nI (by omega)] at h1
      rw [r_le, r_nI (by omega)] at h2
      rw [if_pos (by omega)] at hcc
      rw [hcc]
