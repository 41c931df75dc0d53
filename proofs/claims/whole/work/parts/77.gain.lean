/-! PURE: what a plan gains -/
theorem q_max_i (x y : Int32) : (q_max x y).toInt = max x.toInt y.toInt := by
  unfold q_max
  by_cases h : x < y
  · rw [if_pos h]; rw [r_lt] at h; omega
  · rw [if_neg h]; rw [r_lt] at h; omega
theorem q_min_i (x y : Int32) : (q_min x y).toInt = min x.toInt y.toInt := by
  unfold q_min
  by_cases h : y < x
  · rw [if_pos h]; rw [r_lt] at h; omega
  · rw [if_neg h]; rw [r_lt] at h; omega
theorem sub_i {x y : Int32} (h : -2147483648 ≤ x.toInt - y.toInt) (h' : x.toInt - y.toInt < 2147483648) : (x - y).toInt = x.toInt - y.toInt := by
  rw [Int32.toInt_sub, Int.bmod_eq_of_le (by omega) (by omega)]
theorem to64 (x : Int32) : x.toInt64 = Int64.ofInt x.toInt := (Int64.ofInt_int32ToInt x).symm
/-- minutes on a leg from a to e, of the first n -/
def og (n : Nat) (a e : Int) : Int := ((n / 60 : Nat) : Int) * (e - a) + max 0 (min (((n % 60 : Nat) : Int) - a) (e - a))
theorem og_0 {a e : Int} (h : 0 ≤ a) : og 0 a e = 0 := by
  unfold og
  rw [show ((0 / 60 : Nat) : Int) = 0 from rfl, Int.zero_mul]
  omega
theorem og_s {n : Nat} {a e : Int} (h : 0 ≤ a) (h1 : a < e) (h2 : e ≤ 60) : og (n + 1) a e = og n a e + if a ≤ ((n % 60 : Nat) : Int) ∧ ((n % 60 : Nat) : Int) < e then 1 else 0 := by
  unfold og
  by_cases hh : n % 60 = 59
  · rw [show (n + 1) / 60 = n / 60 + 1 by omega, show (n + 1) % 60 = 0 by omega, hh, Int.natCast_add, Int.add_mul]
    split <;> omega
  · rw [show (n + 1) / 60 = n / 60 by omega, show (n + 1) % 60 = n % 60 + 1 by omega]
    split <;> omega
/-- the end of leg i -/
def legE (mi : Nat → Int32) (c i : Nat) : Int := if i + 1 < c then (mi (i + 1)).toInt else 60
def sg (v : Int32 → Int32) (mi co : Nat → Int32) (c n : Nat) : Nat → Int64
  | 0 => 0
  | i + 1 => sg v mi co c n i + Int64.ofInt (og n (mi i).toInt (legE mi c i)) * ((v (co i)).toInt64 - (v 0).toInt64)
def si (v : Int32 → Int32) (mi co : Nat → Int32) (c : Nat) (mo : Int) : Nat → Int64
  | 0 => 0
  | i + 1 => si v mi co c mo i + if (mi i).toInt ≤ mo ∧ mo < legE mi c i then (v (co i)).toInt64 - (v 0).toInt64 else 0
def gr (v : Int32 → Int32) (mi co : Nat → Int32) (c : Nat) : Nat → Int64
  | 0 => 0
  | n + 1 => gr v mi co c n + (v (hd mi co (nI (n % 60)) 0 c)).toInt64
theorem sg_0 {v : Int32 → Int32} {mi co : Nat → Int32} {c : Nat} : ∀ i, (∀ j, j < i → 0 ≤ (mi j).toInt) → sg v mi co c 0 i = 0 := by
  intro i
  induction i with
  | zero => intro _; rfl
  | succ i ih =>
    intro h
    have e : sg v mi co c 0 (i + 1) = sg v mi co c 0 i + Int64.ofInt (og 0 (mi i).toInt (legE mi c i)) * ((v (co i)).toInt64 - (v 0).toInt64) := rfl
    rw [e, ih (fun j hj => h j (by omega)), og_0 (h i (by omega)), show Int64.ofInt 0 = 0 from rfl]
    grind
theorem sg_s {v : Int32 → Int32} {mi co : Nat → Int32} {c n : Nat} : ∀ i, (∀ j, j < i → 0 ≤ (mi j).toInt ∧ (mi j).toInt < legE mi c j ∧ legE mi c j ≤ 60) → sg v mi co c (n + 1) i = sg v mi co c n i + si v mi co c ((n % 60 : Nat) : Int) i := by
  intro i
  induction i with
  | zero => intro _; rfl
  | succ i ih =>
    intro h
    obtain ⟨h1, h2, h3⟩ := h i (by omega)
    have e : ∀ n, sg v mi co c n (i + 1) = sg v mi co c n i + Int64.ofInt (og n (mi i).toInt (legE mi c i)) * ((v (co i)).toInt64 - (v 0).toInt64) := fun _ => rfl
    have e2 : si v mi co c ((n % 60 : Nat) : Int) (i + 1) = si v mi co c ((n % 60 : Nat) : Int) i + if (mi i).toInt ≤ ((n % 60 : Nat) : Int) ∧ ((n % 60 : Nat) : Int) < legE mi c i then (v (co i)).toInt64 - (v 0).toInt64 else 0 := rfl
    rw [e, e, e2, ih (fun j hj => h j (by omega)), og_s h1 h2 h3]
    split
    · rw [Int64.ofInt_add, show Int64.ofInt 1 = 1 from rfl]
      grind
    · rw [Int.add_zero]
      grind
theorem si_hd {v : Int32 → Int32} {mi co : Nat → Int32} {c mo : Nat} (hmo : mo < 60) (hs : ∀ i j, i < j → j < c → (mi i).toInt < (mi j).toInt) : ∀ i, i ≤ c → si v mi co c (mo : Int) i = if i < c ∧ (mi i).toInt ≤ (mo : Int) then 0 else (v (hd mi co (nI mo) 0 i)).toInt64 - (v 0).toInt64 := by
  intro i
  induction i with
  | zero =>
    intro _
    show (0 : Int64) = _
    split
    · rfl
    · show (0 : Int64) = (v 0).toInt64 - (v 0).toInt64
      grind
  | succ i ih =>
    intro hi
    have e2 : si v mi co c (mo : Int) (i + 1) = si v mi co c (mo : Int) i + if (mi i).toInt ≤ (mo : Int) ∧ (mo : Int) < legE mi c i then (v (co i)).toInt64 - (v 0).toInt64 else 0 := rfl
    have e3 : hd mi co (nI mo) 0 (i + 1) = if mi i ≤ nI mo ∧ bt 0 i = false then co i else hd mi co (nI mo) 0 i := rfl
    rw [e2, e3, ih (by omega)]
    by_cases ha : (mi i).toInt ≤ (mo : Int)
    · rw [if_pos (show mi i ≤ nI mo ∧ bt 0 i = false from ⟨by rw [r_le, r_nI (by omega)]; exact ha, b_0 ..⟩), if_pos (show i < c ∧ (mi i).toInt ≤ (mo : Int) from ⟨by omega, ha⟩)]
      by_cases hb : i + 1 < c ∧ (mi (i + 1)).toInt ≤ (mo : Int)
      · rw [if_pos hb, if_neg (show ¬ ((mi i).toInt ≤ (mo : Int) ∧ (mo : Int) < legE mi c i) from fun z => by
          have := z.2
          unfold legE at this
          rw [if_pos hb.1] at this
          omega)]
        rfl
      · rw [if_neg hb, if_pos (show (mi i).toInt ≤ (mo : Int) ∧ (mo : Int) < legE mi c i from ⟨ha, by
          unfold legE
          split <;> omega⟩)]
        grind
    · rw [if_neg (show ¬ (mi i ≤ nI mo ∧ bt 0 i = false) from fun z => ha (by have := z.1; rw [r_le, r_nI (by omega)] at this; exact this)), if_neg (show ¬ (i < c ∧ (mi i).toInt ≤ (mo : Int)) from fun z => ha z.2), if_neg (show ¬ ((mi i).toInt ≤ (mo : Int) ∧ (mo : Int) < legE mi c i) from fun z => ha z.1), if_neg (show ¬ (i + 1 < c ∧ (mi (i + 1)).toInt ≤ (mo : Int)) from fun z => by have := hs i (i + 1) (by omega) z.1; omega)]
      grind
theorem gr_sg {v : Int32 → Int32} {mi co : Nat → Int32} {c : Nat} (hr : ∀ i, i < c → 0 ≤ (mi i).toInt ∧ (mi i).toInt ≤ 59) (hs : ∀ i j, i < j → j < c → (mi i).toInt < (mi j).toInt) : ∀ n, n < 2 ^ 31 → (v 0).toInt64 * (nI n).toInt64 + sg v mi co c n c = gr v mi co c n := by
  intro n
  induction n with
  | zero =>
    intro _
    rw [sg_0 c (fun j hj => (hr j hj).1)]
    show (v 0).toInt64 * 0 + 0 = (0 : Int64)
    grind
  | succ n ih =>
    intro hn
    have e : gr v mi co c (n + 1) = gr v mi co c n + (v (hd mi co (nI (n % 60)) 0 c)).toInt64 := rfl
    have hN : (nI (n + 1)).toInt64 = (nI n).toInt64 + 1 := by
      rw [to64, to64, r_nI hn, r_nI (by omega), Int.natCast_add, Int64.ofInt_add]
      rfl
    rw [e, sg_s c (fun j hj => ⟨(hr j hj).1, by
      unfold legE
      split
      · exact hs j (j + 1) (by omega) (by omega)
      · have := hr j hj; omega, by
      unfold legE
      split
      · have := hr (j + 1) (by omega); omega
      · omega⟩), si_hd (Nat.mod_lt _ (by decide)) hs c (Nat.le_refl _), if_neg (fun z => by omega), ← ih (by omega), hN]
    grind
/-- the plan at label a, p in the reference -/
def Pn (I : Nat → Nat → Int32) (p c : Nat) : Prop := p < 4 ∧ c ≤ 12 ∧ I (46 + 3 * p) 2 = nI c ∧ I 61 p = nI c ∧
  (∀ i, i < c → I (46 + 3 * p + 1) i = I 59 (12 * p + i) ∧ I (46 + 3 * p + 2) i = I 60 (12 * p + i) ∧ 0 ≤ (I 59 (12 * p + i)).toInt ∧ (I 59 (12 * p + i)).toInt ≤ 59 ∧ -4 ≤ (I 60 (12 * p + i)).toInt ∧ (I 60 (12 * p + i)).toInt ≤ 4) ∧
  (∀ i j, i < j → j < c → (I 59 (12 * p + i)).toInt < (I 59 (12 * p + j)).toInt)
theorem Pn_of {m : q_Mm} (hI : Inv m) {p : Nat} (hp : p < 4) : ∃ c, Pn m.1 p c := by
  obtain ⟨c, hc, e1, e2, hr, hs⟩ := hI.1 p hp
  exact ⟨c, hp, hc, e1, e2, hr, hs⟩
theorem legEnd9 {m : q_Mm} {p c i : Nat} (h : Pn m.1 p c) (hi : i < c) : ∃ r, f_X5_legEnd (46 + 3 * p) (nI i) m = some r ∧ r.toInt = legE (fun j => m.1 59 (12 * p + j)) c i := by
  obtain ⟨hp, hc, e1, e2, hr, hs⟩ := h
  unfold f_X5_legEnd legE
  rw [e1, nI_1]
  by_cases hx : i + 1 < c
  · rw [if_neg (nI_ge hx (by omega)), if_pos hx, if_pos (r_in (show i + 1 < 12 by omega) (by decide)), r_cl (by omega)]
    exact ⟨_, rfl, by rw [(hr (i + 1) hx).1]⟩
  · rw [if_pos (nI_le (by omega) (by omega)), if_neg hx]
    exact ⟨_, rfl, rfl⟩
theorem gain_g {m : q_Mm} {p c n : Nat} {ax : Int32} {v : Int32 → Int32} (h : Pn m.1 p c) (hn : n ≤ 600) (hv : ∀ x : Int32, -4 ≤ x.toInt ∧ x.toInt ≤ 4 → f_X9_pace x ax m = some (v x)) (hb : ∀ x : Int32, -4 ≤ x.toInt ∧ x.toInt ≤ 4 → -1000 ≤ (v x).toInt ∧ (v x).toInt ≤ 1000) : f_X5_gain (46 + 3 * p) (nI n) ax m = some (gr v (fun j => m.1 59 (12 * p + j)) (fun j => m.1 60 (12 * p + j)) c n) := by
  have h' := h
  obtain ⟨hp, hc, e1, e2, hr, hs⟩ := h'
  have l := qlp7g (fun f i (s : Int64) => l_X5_gain_16 f (46 + 3 * p) (nI n) ax (v 0) s (nI i) m) c 0 (fun i => (v 0).toInt64 * (nI n).toInt64 + sg v (fun j => m.1 59 (12 * p + j)) (fun j => m.1 60 (12 * p + j)) c n i) (fun s => s) (by omega) (by omega)
    (fun f => by
      show l_X5_gain_16 (f + 1) _ _ _ _ _ _ _ = _
      unfold l_X5_gain_16
      rw [e1, if_pos (nI_le (Nat.le_refl _) (by omega))])
    (fun f i _ hi => by
      show l_X5_gain_16 (f + 1) _ _ _ _ _ _ _ = l_X5_gain_16 f _ _ _ _ _ _ _
      obtain ⟨r, er, hrr⟩ := legEnd9 h hi
      obtain ⟨r1, r2, r3, r4, r5, r6⟩ := hr i hi
      have hle : (m.1 59 (12 * p + i)).toInt < r.toInt ∧ r.toInt ≤ 60 := by
        rw [hrr]
        unfold legE
        split
        · have := hs i (i + 1) (by omega) (by omega)
          have := hr (i + 1) (by omega)
          dsimp only
          omega
        · omega
      have pe : sg v (fun j => m.1 59 (12 * p + j)) (fun j => m.1 60 (12 * p + j)) c n (i + 1) = sg v (fun j => m.1 59 (12 * p + j)) (fun j => m.1 60 (12 * p + j)) c n i + Int64.ofInt (og n (m.1 59 (12 * p + i)).toInt (legE (fun j => m.1 59 (12 * p + j)) c i)) * ((v (m.1 60 (12 * p + i))).toInt64 - (v 0).toInt64) := rfl
      have hb0 := hb 0 (by decide)
      have hbi := hb _ ⟨r5, r6⟩
      have k1 : (r - m.1 59 (12 * p + i)).toInt = r.toInt - (m.1 59 (12 * p + i)).toInt := sub_i (by omega) (by omega)
      have k2 : (nI (n % 60) - m.1 59 (12 * p + i)).toInt = ((n % 60 : Nat) : Int) - (m.1 59 (12 * p + i)).toInt := by
        rw [sub_i, r_nI (by omega)] <;> rw [r_nI (by omega)] <;> omega
      have k3 : (v (m.1 60 (12 * p + i)) - v 0).toInt64 = (v (m.1 60 (12 * p + i))).toInt64 - (v 0).toInt64 := by
        rw [to64, sub_i (by omega) (by omega), Int64.ofInt_sub, ← to64, ← to64]
      have k4 : (nI (n / 60)).toInt64 * (r - m.1 59 (12 * p + i)).toInt64 + (q_max 0 (q_min (nI (n % 60) - m.1 59 (12 * p + i)) (r - m.1 59 (12 * p + i)))).toInt64 = Int64.ofInt (og n (m.1 59 (12 * p + i)).toInt (legE (fun j => m.1 59 (12 * p + j)) c i)) := by
        rw [to64, to64, to64, q_max_i, q_min_i, k1, k2, r_nI (by omega), ← Int64.ofInt_mul, ← Int64.ofInt_add, ← hrr]
        rfl
      conv => lhs; unfold l_X5_gain_16
      rw [e1, if_neg (nI_ge hi (by omega)), er, Option.bind_some, r_in (show i < 12 by omega) (by decide), r_cl (by omega), if_pos rfl, if_pos rfl, if_pos rfl, r2, r1, hv _ ⟨r5, r6⟩, Option.bind_some, nI_1, rem60 (by omega), div60 (by omega), k3, k4, pe, Int64.add_assoc])
  unfold f_X5_gain
  rw [hv 0 (by decide), Option.bind_some]
  have l0 : l_X5_gain_16 7000 (46 + 3 * p) (nI n) ax (v 0) ((v 0).toInt64 * (nI n).toInt64) 0 m = some (gr v (fun j => m.1 59 (12 * p + j)) (fun j => m.1 60 (12 * p + j)) c n) := by
    rw [← gr_sg (fun i hi => ⟨(hr i hi).2.2.1, (hr i hi).2.2.2.1⟩) hs n (by omega)]
    have z : (v 0).toInt64 * (nI n).toInt64 = (v 0).toInt64 * (nI n).toInt64 + sg v (fun j => m.1 59 (12 * p + j)) (fun j => m.1 60 (12 * p + j)) c n 0 := by
      show _ = _ + (0 : Int64)
      rw [Int64.add_zero]
    exact (congrArg (fun q => l_X5_gain_16 7000 (46 + 3 * p) (nI n) ax (v 0) q 0 m) z).trans l
  rw [l0, Option.bind_some]
theorem gainX {m : q_Mm} {p c n : Nat} (h : Pn m.1 p c) (hn : n ≤ 600) : f_X5_gain (46 + 3 * p) (nI n) 0 m = some (gr vX (fun j => m.1 59 (12 * p + j)) (fun j => m.1 60 (12 * p + j)) c n) := gain_g h hn (fun x hx => paceX m hx) (fun x hx => by have := vX_in hx; omega)
theorem gainY {m : q_Mm} {p c n : Nat} (h : Pn m.1 p c) (hn : n ≤ 600) : f_X5_gain (46 + 3 * p) (nI n) 1 m = some (gr vY (fun j => m.1 59 (12 * p + j)) (fun j => m.1 60 (12 * p + j)) c n) := gain_g h hn (fun x hx => paceY m hx) (fun x hx => vY_in hx)
