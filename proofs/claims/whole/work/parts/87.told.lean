/-! PURE: a way with a missed turn -/
def wk (v : Int32 → Int32) (cr : Nat → Int32) (x0 : Int64) (sp : Int32) : Nat → Int64
  | 0 => x0
  | t + 1 => wk v cr x0 sp t + (v (cr t)).toInt64 * sp.toInt64
theorem wk_in {v : Int32 → Int32} {cr : Nat → Int32} {x0 : Int64} {sp : Int32} (hv : ∀ t, -1000 ≤ (v (cr t)).toInt ∧ (v (cr t)).toInt ≤ 1000) (hx : -100000 ≤ x0.toInt ∧ x0.toInt ≤ 100000) (hs : 1 ≤ sp.toInt ∧ sp.toInt ≤ 20) : ∀ t : Nat, t ≤ 1000 → -100000 - 20000 * (t : Int) ≤ (wk v cr x0 sp t).toInt ∧ (wk v cr x0 sp t).toInt ≤ 100000 + 20000 * (t : Int) := by
  intro t
  induction t with
  | zero =>
    intro _
    show -100000 - 20000 * ((0 : Nat) : Int) ≤ x0.toInt ∧ x0.toInt ≤ _
    omega
  | succ t ih =>
    intro ht
    have h0 := ih (by omega)
    have hb := hv t
    have m1 : ((v (cr t)).toInt64 * sp.toInt64).toInt = (v (cr t)).toInt * sp.toInt := by
      rw [mulL (a := 1000) (b := 20) (by rw [r_64]; omega) (by rw [r_64]; omega) (by decide), r_64, r_64]
    have a1 := absmul (x := (v (cr t)).toInt) (y := sp.toInt) (a := 1000) (b := 20) (by omega) (by omega)
    have e1 : wk v cr x0 sp (t + 1) = wk v cr x0 sp t + (v (cr t)).toInt64 * sp.toInt64 := rfl
    rw [e1, addL (by rw [m1]; omega), m1]
    omega
theorem wk_c {v : Int32 → Int32} {cr cr' : Nat → Int32} {x0 : Int64} {sp : Int32} : ∀ t, (∀ i, i < t → cr' i = cr i) → wk v cr' x0 sp t = wk v cr x0 sp t := by
  intro t
  induction t with
  | zero => intro _; rfl
  | succ t ih =>
    intro h
    have e : ∀ c, wk v c x0 sp (t + 1) = wk v c x0 sp t + (v (c t)).toInt64 * sp.toInt64 := fun _ => rfl
    rw [e, e, ih (fun i hi => h i (by omega)), h t (by omega)]
/-- clear minutes from a to e -/
def clr (f0 f1 a e : Int) : Int := max 0 (e - a) - max 0 (min e f1 - max a f0)
theorem clr_0 {f0 f1 a en : Int} (h : 0 ≤ a) : clr f0 f1 a (min en 0) = 0 := by
  unfold clr
  omega
theorem clr_s {f0 f1 a en t : Int} (hf : f0 ≤ f1) : clr f0 f1 a (min en (t + 1)) = clr f0 f1 a (min en t) + if a ≤ t ∧ t < en ∧ ¬ (f0 ≤ t ∧ t < f1) then 1 else 0 := by
  unfold clr
  split <;> omega
theorem hd_mask {mi co : Nat → Int32} {mo a b : Int32} : ∀ c, (∀ i, i < c → bt a i = bt b i) → hd mi co mo a c = hd mi co mo b c := by
  intro c
  induction c with
  | zero => intro _; rfl
  | succ c ih =>
    intro h
    unfold hd
    rw [ih (fun i hi => h i (by omega)), h c (by omega)]
theorem hd_miss {mi co : Nat → Int32} {c k mo : Nat} (hc : c ≤ 12) (hk : k < c) (hmo : mo < 60) (hs : ∀ i j, i < j → j < c → (mi i).toInt < (mi j).toInt) : hd mi co (nI mo) ((1 : Int32) <<< (nI k &&& 31)) c = if (mi k).toInt ≤ (mo : Int) ∧ (mo : Int) < legE mi c k then (if k = 0 then 0 else co (k - 1)) else hd mi co (nI mo) 0 c := by
  have hb : ∀ i, i < 32 → bt ((1 : Int32) <<< (nI k &&& 31)) i = decide (i = k) := fun i hi => bt_pow (by omega) hi
  have le' : ∀ x : Int32, x ≤ nI mo ↔ x.toInt ≤ (mo : Int) := fun x => by rw [r_le, r_nI (by omega)]
  have lt' : ∀ x : Int32, nI mo < x ↔ (mo : Int) < x.toInt := fun x => by rw [r_lt, r_nI (by omega)]
  by_cases h1 : (mi k).toInt ≤ (mo : Int)
  · by_cases h2 : (mo : Int) < legE mi c k
    · rw [if_pos ⟨h1, h2⟩, hd_stop c (show k + 1 ≤ c by omega) (fun j j1 j2 => by
        rw [lt']
        unfold legE at h2
        rw [if_pos (by omega)] at h2
        rcases Nat.lt_or_ge (k + 1) j with w | w
        · have := hs (k + 1) j w j2
          omega
        · rw [show j = k + 1 by omega]; exact h2)]
      have pe : ∀ a, hd mi co (nI mo) a (k + 1) = if mi k ≤ nI mo ∧ bt a k = false then co k else hd mi co (nI mo) a k := fun _ => rfl
      rw [pe, if_neg (show ¬ (mi k ≤ nI mo ∧ bt ((1 : Int32) <<< (nI k &&& 31)) k = false) from fun w => by have := w.2; rw [hb k (by omega)] at this; simp at this)]
      by_cases hk0 : k = 0
      · rw [if_pos hk0, hk0]
        rfl
      · rw [if_neg hk0]
        obtain ⟨j, rfl⟩ : ∃ j, k = j + 1 := ⟨k - 1, by omega⟩
        have pe : ∀ a, hd mi co (nI mo) a (j + 1) = if mi j ≤ nI mo ∧ bt a j = false then co j else hd mi co (nI mo) a j := fun _ => rfl
        rw [pe, if_pos (show mi j ≤ nI mo ∧ bt ((1 : Int32) <<< (nI (j + 1) &&& 31)) j = false from ⟨by
          rw [le']
          have := hs j (j + 1) (by omega) hk
          omega, by rw [hb j (by omega)]; exact decide_eq_false (by omega)⟩)]
        rfl
    · rw [if_neg (fun w => h2 w.2)]
      have hk1 : k + 1 < c := by
        unfold legE at h2
        split at h2
        · assumption
        · omega
      have hm1 : (mi (k + 1)).toInt ≤ (mo : Int) := by
        unfold legE at h2
        rw [if_pos hk1] at h2
        omega
      have key : ∀ d, k + 2 + d ≤ c → hd mi co (nI mo) ((1 : Int32) <<< (nI k &&& 31)) (k + 2 + d) = hd mi co (nI mo) 0 (k + 2 + d) := by
        intro d
        induction d with
        | zero =>
          intro _
          have pe : ∀ a, hd mi co (nI mo) a (k + 2 + 0) = if mi (k + 1) ≤ nI mo ∧ bt a (k + 1) = false then co (k + 1) else hd mi co (nI mo) a (k + 1) := fun _ => rfl
          rw [pe, pe, if_pos ⟨(le' _).mpr hm1, by rw [hb (k + 1) (by omega)]; exact decide_eq_false (by omega)⟩, if_pos ⟨(le' _).mpr hm1, b_0 _⟩]
        | succ d ih =>
          intro hd'
          have pe : ∀ a, hd mi co (nI mo) a (k + 2 + (d + 1)) = if mi (k + 2 + d) ≤ nI mo ∧ bt a (k + 2 + d) = false then co (k + 2 + d) else hd mi co (nI mo) a (k + 2 + d) := fun _ => rfl
          rw [pe, pe, ih (by omega), hb (k + 2 + d) (by omega), b_0, show decide (k + 2 + d = k) = false from decide_eq_false (by omega)]
      have := key (c - (k + 2)) (by omega)
      rw [show k + 2 + (c - (k + 2)) = c by omega] at this
      exact this
  · rw [if_neg (fun w => h1 w.1)]
    have st : ∀ a, hd mi co (nI mo) a c = hd mi co (nI mo) a k := fun a => hd_stop c (show k ≤ c by omega) (fun j j1 j2 => by
      rw [lt']
      rcases Nat.lt_or_ge k j with w | w
      · have := hs k j w j2
        omega
      · rw [show j = k by omega]; omega)
    rw [st, st]
    exact hd_mask k (fun i hi => by rw [hb i (by omega), b_0]; exact decide_eq_false (by omega))
def ms0 : Nat → Int32 := fun _ => 0
def msk (h k : Nat) : Nat → Int32 := fun h' => if h' = h then (1 : Int32) <<< (nI k &&& 31) else 0
theorem walk_miss {v : Int32 → Int32} {f0 f1 ck : Int} {mi co : Nat → Int32} {c h k : Nat} {x0 : Int64} {sp : Int32} (hc : c ≤ 12) (hk : k < c) (hf : f0 ≤ f1) (hr : ∀ i, i < c → 0 ≤ (mi i).toInt ∧ (mi i).toInt ≤ 59) (hs : ∀ i j, i < j → j < c → (mi i).toInt < (mi j).toInt) : ∀ t : Nat, wk v (crs f0 f1 ck mi co (msk h k) c) x0 sp t = wk v (crs f0 f1 ck mi co ms0 c) x0 sp t + Int64.ofInt (clr f0 f1 (max 0 (60 * (h : Int) - ck + (mi k).toInt)) (min (60 * (h : Int) - ck + legE mi c k) (t : Int))) * (((v (if k = 0 then 0 else co (k - 1))).toInt64 - (v (co k)).toInt64) * sp.toInt64) := by
  have hle : (mi k).toInt < legE mi c k ∧ legE mi c k ≤ 60 := by
    unfold legE
    split
    · have := hs k (k + 1) (by omega) (by omega)
      have := hr (k + 1) (by omega)
      omega
    · have := hr k hk
      omega
  have hmk := hr k hk
  intro t
  induction t with
  | zero =>
    rw [show ((0 : Nat) : Int) = 0 from rfl, clr_0 (by omega)]
    show x0 = x0 + Int64.ofInt 0 * _
    rw [show Int64.ofInt 0 = 0 from rfl]
    grind
  | succ t ih =>
    have e : ∀ cr, wk v cr x0 sp (t + 1) = wk v cr x0 sp t + (v (cr t)).toInt64 * sp.toInt64 := fun _ => rfl
    rw [e, e, ih, show ((t + 1 : Nat) : Int) = (t : Int) + 1 from rfl, clr_s hf]
    by_cases hi : max 0 (60 * (h : Int) - ck + (mi k).toInt) ≤ (t : Int) ∧ (t : Int) < 60 * (h : Int) - ck + legE mi c k ∧ ¬ (f0 ≤ (t : Int) ∧ (t : Int) < f1)
    · rw [if_pos hi]
      obtain ⟨i1, i2, i3⟩ := hi
      have hq : ((t : Int) + ck).toNat / 60 = h := by omega
      have c1 : crs f0 f1 ck mi co (msk h k) c t = if k = 0 then 0 else co (k - 1) := by
        unfold crs
        rw [if_neg i3, if_neg (by omega), hq]
        unfold msk
        rw [if_pos rfl, hd_miss hc hk (Nat.mod_lt _ (by decide)) hs, if_pos (by omega)]
      have c2 : crs f0 f1 ck mi co ms0 c t = co k := by
        unfold crs
        rw [if_neg i3, if_neg (by omega)]
        show hd mi co (nI (((t : Int) + ck).toNat % 60)) 0 c = co k
        have hmo : ((((t : Int) + ck).toNat % 60 : Nat) : Int) = (t : Int) + ck - 60 * (h : Int) := by omega
        rw [hd_stop c (show k + 1 ≤ c by omega) (fun j j1 j2 => by
          have hl : legE mi c k = (mi (k + 1)).toInt := by unfold legE; rw [if_pos (by omega)]
          rw [r_lt, r_nI (by omega), hmo]
          rcases Nat.lt_or_ge (k + 1) j with w | w
          · have := hs (k + 1) j w j2
            omega
          · rw [show j = k + 1 by omega]; omega)]
        have pe : hd mi co (nI (((t : Int) + ck).toNat % 60)) 0 (k + 1) = if mi k ≤ nI (((t : Int) + ck).toNat % 60) ∧ bt 0 k = false then co k else hd mi co (nI (((t : Int) + ck).toNat % 60)) 0 k := rfl
        rw [pe, if_pos ⟨by rw [r_le, r_nI (by omega), hmo]; omega, b_0 _⟩]
      rw [c1, c2, Int64.ofInt_add, show Int64.ofInt 1 = 1 from rfl]
      grind
    · rw [if_neg hi, Int.add_zero]
      have c1 : crs f0 f1 ck mi co (msk h k) c t = crs f0 f1 ck mi co ms0 c t := by
        unfold crs
        by_cases i3 : f0 ≤ (t : Int) ∧ (t : Int) < f1
        · rw [if_pos i3, if_pos i3]
        · rw [if_neg i3, if_neg i3]
          by_cases i4 : (t : Int) + ck < 0
          · rw [if_pos i4, if_pos i4]
          · rw [if_neg i4, if_neg i4]
            by_cases hq : ((t : Int) + ck).toNat / 60 = h
            · rw [hq]
              unfold msk ms0
              rw [if_pos rfl, hd_miss hc hk (Nat.mod_lt _ (by decide)) hs, if_neg (by omega)]
            · unfold msk ms0
              rw [if_neg hq]
      rw [c1]
      grind
/-! sums of longs -/
def sLg (f : Nat → Int64) : Nat → Int64
  | 0 => 0
  | n + 1 => sLg f n + f n
theorem sLg_s {f : Nat → Int64} {n : Nat} : sLg f (n + 1) = sLg f n + f n := rfl
theorem sLg_c {f g : Nat → Int64} : ∀ n, (∀ i, i < n → f i = g i) → sLg f n = sLg g n := by
  intro n
  induction n with
  | zero => intro _; rfl
  | succ n ih => intro h; rw [sLg_s, sLg_s, ih (fun i hi => h i (by omega)), h n (by omega)]
theorem sLg_a {f g : Nat → Int64} : ∀ n, sLg (fun i => f i + g i) n = sLg f n + sLg g n := by
  intro n
  induction n with
  | zero => rfl
  | succ n ih => rw [sLg_s, sLg_s, sLg_s, ih]; grind
theorem sLg_0 : ∀ n, sLg (fun _ => 0) n = 0 := by
  intro n
  induction n with
  | zero => rfl
  | succ n ih => rw [sLg_s, ih]; rfl
theorem sLg_1 {F : Nat → Int64} {a : Nat} : ∀ n, sLg (fun t => if a = t then F t else 0) n = if a < n then F a else 0 := by
  intro n
  induction n with
  | zero => rfl
  | succ n ih =>
    rw [sLg_s, ih]
    by_cases h : a = n
    · subst h
      rw [if_neg (by omega), if_pos rfl, if_pos (by omega), Int64.zero_add]
    · rw [if_neg h, Int64.add_zero]
      by_cases h2 : a < n
      · rw [if_pos h2, if_pos (by omega)]
      · rw [if_neg h2, if_neg (by omega)]
theorem sLg_swap {F : Nat → Nat → Int64} {tm : Nat → Nat} {N : Nat} : ∀ c, (∀ k, k < c → tm k < N) → sLg (fun t => sLg (fun k => if tm k = t then F k t else 0) c) N = sLg (fun k => F k (tm k)) c := by
  intro c
  induction c with
  | zero => intro _; exact sLg_0 N
  | succ c ih =>
    intro h
    have e : (fun t => sLg (fun k => if tm k = t then F k t else 0) (c + 1)) = fun t => sLg (fun k => if tm k = t then F k t else 0) c + (if tm c = t then F c t else 0) := rfl
    rw [e, sLg_a, ih (fun k hk => h k (by omega)), sLg_1, if_pos (h c (by omega))]
    rfl
theorem absL_in {x : Int64} {b : Nat} (h : -(b : Int) ≤ x.toInt ∧ x.toInt ≤ b) (hb : b < 2 ^ 62) : 0 ≤ (q_absL x).toInt ∧ (q_absL x).toInt ≤ b := by
  unfold q_absL
  by_cases h0 : 0 < x
  · rw [if_pos h0]; rw [r_ltL, z0i] at h0; omega
  · rw [if_neg h0]; rw [r_ltL, z0i] at h0; rw [Int64.toInt_neg, Int.bmod_eq_of_le (by omega) (by omega)]; omega
theorem far_abs {x y : Int64} {m : q_Mm} (hx : -100000000 ≤ x.toInt ∧ x.toInt ≤ 100000000) (hy : -100000000 ≤ y.toInt ∧ y.toInt ≤ 100000000) : f_X10_far x y m = q_absL (x - y) := by
  have hs : (x - y).toInt = x.toInt - y.toInt := subL (by omega)
  unfold f_X10_far q_absL
  by_cases h : y ≤ x
  · rw [if_pos h]
    by_cases h2 : 0 < x - y
    · rw [if_pos h2]
    · rw [if_neg h2]
      rw [r_leL] at h
      rw [r_ltL, z0i, hs] at h2
      apply Int64.toInt_inj.mp
      rw [Int64.toInt_neg, hs, Int.bmod_eq_of_le (by omega) (by omega)]
      omega
  · rw [if_neg h, if_neg (show ¬ 0 < x - y by rw [r_leL] at h; rw [r_ltL, z0i, hs]; omega)]
    grind
theorem sLg_in {f : Nat → Int64} {b : Nat} (hb : b ≤ 1000000000) : ∀ n, n ≤ 1000 → (∀ i, i < n → 0 ≤ (f i).toInt ∧ (f i).toInt ≤ b) → 0 ≤ (sLg f n).toInt ∧ (sLg f n).toInt ≤ b * n := by
  intro n
  induction n with
  | zero => intro _ _; exact ⟨by show 0 ≤ (0 : Int64).toInt; rw [z0i]; omega, by show (0 : Int64).toInt ≤ (b : Int) * ((0 : Nat) : Int); rw [z0i]; omega⟩
  | succ n ih =>
    intro hn h
    have h1 := ih (by omega) (fun i hi => h i (by omega))
    have h2 := h n (by omega)
    have h3 : (b : Int) * ((n + 1 : Nat) : Int) = (b : Int) * (n : Int) + b := by rw [Int.natCast_add, Int.mul_add]; omega
    have h4 : (b : Int) * (n : Int) ≤ 1000000000000 := by
      have := Nat.mul_le_mul hb (show n ≤ 1000 by omega)
      have : ((b * n : Nat) : Int) ≤ 1000000000000 := by omega
      rw [Int.natCast_mul] at this
      exact this
    rw [sLg_s, addL (by omega)]
    omega
