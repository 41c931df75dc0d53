theorem Pl_62 {I I' : Nat → Nat → Int32} {p c : Nat} (h : ∀ q, ¬ q = 62 → I' q = I q) (hp : Pl I p c) : Pl I' p c := by
  have h4 := hp.1
  unfold Pl
  rw [h 0 (by decide), h 58 (by decide), h (46 + 3 * p) (by omega), h 61 (by decide), h (46 + 3 * p + 1) (by omega), h (46 + 3 * p + 2) (by omega), h 59 (by decide), h 60 (by decide), h 2 (by decide)]
  exact hp
theorem Sp_62 {I I' : Nat → Nat → Int32} {s : Nat} (h : ∀ q, ¬ q = 62 → I' q = I q) (hs : Sp I s) : Sp I' s := by
  have h4 := hs.1
  unfold Sp
  rw [h (5 + 2 * s) (by omega), h 63 (by decide), h 64 (by decide), h 65 (by decide), h 66 (by decide)]
  exact hs
theorem msF_62 {I I' : Nat → Nat → Int32} {s : Nat} (hs : s < 9) (h : ∀ q, ¬ q = 62 → I' q = I q) : msF I' s = msF I s := by
  unfold msF
  rw [h (5 + 2 * s + 1) (by omega)]
theorem cr9_62 {I I' : Nat → Nat → Int32} {p c s : Nat} (hs : s < 9) (h : ∀ q, ¬ q = 62 → I' q = I q) (t : Nat) : cr9 I' p c s t = cr9 I p c s t := by
  unfold cr9
  rw [msF_62 hs h, h 58 (by decide), h 66 (by decide), h 59 (by decide), h 60 (by decide)]
theorem psX_62 {I I' : Nat → Nat → Int32} {p c s : Nat} (hs : s < 9) (h : ∀ q, ¬ q = 62 → I' q = I q) : ∀ t, psX I' p c s t = psX I p c s t := by
  intro t
  induction t with
  | zero => unfold psX; rw [h 63 (by decide)]
  | succ t ih => unfold psX; rw [ih, cr9_62 hs h, h 65 (by decide)]
theorem psY_62 {I I' : Nat → Nat → Int32} {p c s : Nat} (hs : s < 9) (h : ∀ q, ¬ q = 62 → I' q = I q) : ∀ t, psY I' p c s t = psY I p c s t := by
  intro t
  induction t with
  | zero => unfold psY; rw [h 64 (by decide)]
  | succ t ih => unfold psY; rw [ih, cr9_62 hs h, h 65 (by decide)]
theorem Sp_of {m : q_Mm} {c : Nat} (e : m.1 58 11 = nI c) (hI : Inv m) {s : Nat} (hs : s < c) (hc : c ≤ 9) : Sp m.1 s := by
  obtain ⟨c', k, hc', hk, e1, e2, e3, e4, hr, hl, hb⟩ := hI.2.2.2.1
  have : c' = c := (nI_eq (by omega) (by omega)).mp (e2.symm.trans e)
  subst this
  obtain ⟨r1, r2, r3, r4, r5, r6, r7, r8, r9, r10, r11, r12⟩ := hr s hs
  exact ⟨by omega, r1, r2, r3, r4, r9, r10, r11, r12⟩
theorem Inv_1 {m m' : q_Mm} (h : m'.1 = m.1) (hI : Inv m) : Inv m' := Inv_s (fun k j _ => by rw [h]) hI
theorem ok_place : q_OK_place Inv := by
  intro x1 x2 x3 m hI
  obtain ⟨c, k, hc, hk, e1, e2, e3, e4, hr, hl, hb⟩ := hI.2.2.2.1
  have hm1 : (nI c - 1).toInt = (c : Int) - 1 := pk_sub_toInt (b := 1) (by omega) (by decide)
  have s9 : f_X9_isShip x1 m = 0 ↔ ¬ (0 ≤ x1.toInt ∧ x1.toInt ≤ (c : Int) - 1) := by
    unfold f_X9_isShip
    rw [r_within, e1, hm1]; rfl
  have s10 : ∀ m1 : q_Mm, m1.1 = m.1 → (f_X10_in x1.toInt64 0 ((m1.1 58 11) - 1).toInt64 m1 = 0 ↔ ¬ (0 ≤ x1.toInt ∧ x1.toInt ≤ (c : Int) - 1)) := by
    intro m1 h
    rw [r_inn, h, e2, r_64, hm1]; rfl
  by_cases g1 : 0 ≤ x1.toInt ∧ x1.toInt ≤ (c : Int) - 1
  · by_cases g2 : 0 ≤ x2.toInt ∧ x2.toInt ≤ 600
    · by_cases g3 : 0 ≤ x3.toInt ∧ x3.toInt ≤ 1
      · obtain ⟨s, hs, rfl⟩ := r_of g1.1 (n := c) (by omega) (by omega)
        obtain ⟨T, hT, rfl⟩ := r_of g2.1 (n := 601) (by omega) (by decide)
        obtain ⟨p, q, hP⟩ := Pl_of hI
        have hS := Sp_of e2 hI hs hc
        obtain ⟨m1, a1, a2, a3, a4⟩ := place_l9 hP hS (T := T) (by omega) x3 T 0 (by omega) (by omega) 7000 (f_X7_begin (5 + 2 * s) m) (by omega) rfl (by
          unfold f_X7_begin
          rw [r_wl2, if_neg (by omega), r_wl2, if_pos ⟨rfl, rfl⟩, hS.2.1]; rfl) (by
          unfold f_X7_begin
          rw [r_wl2, if_pos ⟨rfl, rfl⟩, r_wl1, hS.2.2.1]; rfl)
        have hI1 := Inv_1 a2 hI
        obtain ⟨m2, b1, b2, b3, b4⟩ := layM10 hI1 (s := s) (by omega)
        rw [a2] at b3 b4
        obtain ⟨m3, c1, c2, c3, c4⟩ := place_l10 (Pl_62 b3 hP) (Sp_62 b3 hS) (fun h hh => by rw [b4 h hh, msF_62 (by omega) b3]) (T := T) (by omega) x3 T 0 (by omega) (by omega) 7000 (q_wl (q_wl m2 58 5 (m2.1 63 s).toInt64) 58 6 ((q_wl m2 58 5 (m2.1 63 s).toInt64).1 64 s).toInt64) (by omega) rfl (by
          rw [r_wl2, if_neg (by omega), r_wl2, if_pos ⟨rfl, rfl⟩]; rfl) (by
          rw [r_wl2, if_pos ⟨rfl, rfl⟩]; rfl)
        rw [psX_62 (by omega) b3] at c3
        rw [psY_62 (by omega) b3] at c4
        have u9 : f_X9_place (nI s) (nI T) x3 m = if x3 = 0 then some (psX m.1 p q s T, m1) else some (psY m.1 p q s T, m1) := by
          unfold f_X9_place
          rw [if_neg (fun e => s9.mp e g1), if_neg (show ¬ f_X9_within (nI T) 0 600 m = 0 from fun e => r_within.mp e g2), if_neg (show ¬ f_X9_within x3 0 1 m = 0 from fun e => r_within.mp e g3), if_pos (r_in (show s < 9 by omega) (by decide)), r_cl (show s < 2 ^ 31 by omega), show l_X9_place_55 7000 (5 + 2 * s) (nI T) x3 0 (f_X7_begin (5 + 2 * s) m) = some m1 from a1, Option.bind_some, a3, a4]
        have u10 : f_X10_place (nI s) (nI T) x3 m1 = if x3 = 0 then some (psX m.1 p q s T, m3) else some (psY m.1 p q s T, m3) := by
          unfold f_X10_place
          rw [if_neg (fun e => (s10 m1 a2).mp e g1), if_neg (show ¬ f_X10_in (nI T).toInt64 0 600 m1 = 0 from fun e => r_inn.mp e g2), if_neg (show ¬ f_X10_in x3.toInt64 0 1 m1 = 0 from fun e => r_inn.mp e g3), b1, Option.bind_some, if_pos (r_in (show s < 9 by omega) (by decide)), if_pos (r_in (show s < 9 by omega) (by decide)), r_cl (show s < 2 ^ 31 by omega), show l_X10_place_76 7000 (nI s) (nI T) x3 0 _ = some m3 from c1, Option.bind_some, c3, c4]
        by_cases z : x3 = 0
        · rw [if_pos z] at u9 u10
          exact ⟨_, _, _, u9, u10, Inv_s (s_X10_place u10) hI1⟩
        · rw [if_neg z] at u9 u10
          exact ⟨_, _, _, u9, u10, Inv_s (s_X10_place u10) hI1⟩
      · refine ⟨-1000000000002, m, m, ?_, ?_, hI⟩
        · unfold f_X9_place
          rw [if_neg (fun e => s9.mp e g1), if_neg (show ¬ f_X9_within x2 0 600 m = 0 from fun e => r_within.mp e g2), if_pos (show f_X9_within x3 0 1 m = 0 from r_within.mpr g3)]
        · unfold f_X10_place
          rw [if_neg (fun e => (s10 m rfl).mp e g1), if_neg (show ¬ f_X10_in x2.toInt64 0 600 m = 0 from fun e => r_inn.mp e g2), if_pos (show f_X10_in x3.toInt64 0 1 m = 0 from r_inn.mpr g3)]
    · refine ⟨-1000000000002, m, m, ?_, ?_, hI⟩
      · unfold f_X9_place
        rw [if_neg (fun e => s9.mp e g1), if_pos (show f_X9_within x2 0 600 m = 0 from r_within.mpr g2)]
      · unfold f_X10_place
        rw [if_neg (fun e => (s10 m rfl).mp e g1), if_pos (show f_X10_in x2.toInt64 0 600 m = 0 from r_inn.mpr g2)]
  · refine ⟨-1000000000001, m, m, ?_, ?_, hI⟩
    · unfold f_X9_place
      rw [if_pos (s9.mpr g1)]
    · unfold f_X10_place
      rw [if_pos ((s10 m rfl).mpr g1)]
