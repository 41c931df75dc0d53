/-! PURE: all ships; the nearest pair -/
theorem Pl_u {I I' : Nat → Nat → Int32} {p c : Nat} (h : ∀ q, ¬ q = 62 → ¬ q = 3 → I' q = I q) (hp : Pl I p c) : Pl I' p c := by
  have h4 := hp.1
  unfold Pl
  rw [h 0 (by decide) (by decide), h 58 (by decide) (by decide), h (46 + 3 * p) (by omega) (by omega), h 61 (by decide) (by decide), h (46 + 3 * p + 1) (by omega) (by omega), h (46 + 3 * p + 2) (by omega) (by omega), h 59 (by decide) (by decide), h 60 (by decide) (by decide), h 2 (by decide) (by decide)]
  exact hp
theorem Sp_u {I I' : Nat → Nat → Int32} {s : Nat} (h : ∀ q, ¬ q = 62 → ¬ q = 3 → I' q = I q) (hs : Sp I s) : Sp I' s := by
  have h4 := hs.1
  unfold Sp
  rw [h (5 + 2 * s) (by omega) (by omega), h 63 (by decide) (by decide), h 64 (by decide) (by decide), h 65 (by decide) (by decide), h 66 (by decide) (by decide)]
  exact hs
theorem msF_u {I I' : Nat → Nat → Int32} {s : Nat} (hs : s < 9) (h : ∀ q, ¬ q = 62 → ¬ q = 3 → I' q = I q) : msF I' s = msF I s := by
  unfold msF
  rw [h (5 + 2 * s + 1) (by omega) (by omega)]
theorem cr9_u {I I' : Nat → Nat → Int32} {p c s : Nat} (hs : s < 9) (h : ∀ q, ¬ q = 62 → ¬ q = 3 → I' q = I q) (t : Nat) : cr9 I' p c s t = cr9 I p c s t := by
  unfold cr9
  rw [msF_u hs h, h 58 (by decide) (by decide), h 66 (by decide) (by decide), h 59 (by decide) (by decide), h 60 (by decide) (by decide)]
/-- the cells that the class and the reference write here leave these rows -/
def Fr (I I' : Nat → Nat → Int32) : Prop := ∀ q, ¬ q = 62 → ¬ q = 3 → I' q = I q
def At9 (I : Nat → Nat → Int32) (p c z t : Nat) (J : Nat → Nat → Int64) : Prop := J (5 + 2 * z) 5 = psX I p c z t ∧ J (5 + 2 * z) 6 = psY I p c z t
def At10 (I : Nat → Nat → Int32) (p c z t : Nat) (J : Nat → Nat → Int64) : Prop := J 70 z = psX I p c z t ∧ J 71 z = psY I p c z t
theorem beginAll9 {I : Nat → Nat → Int32} {p c n : Nat} {m : q_Mm} (hn : n ≤ 9) (hF : Fr I m.1) (e : m.1 3 1 = nI n) (hS : ∀ z, z < n → Sp I z) : ∃ m', f_X0_beginAll m = some m' ∧ m'.1 = m.1 ∧ m'.2 3 = m.2 3 ∧ ∀ z, z < n → At9 I p c z 0 m'.2 := by
  obtain ⟨m', q, b1, b2, b3⟩ := qlp7 (fun f i (s : q_Mm) => l_X0_beginAll_2 f (nI i) s) n 0 m (fun i s => s.1 = m.1 ∧ s.2 3 = m.2 3 ∧ ∀ z, z < i → At9 I p c z 0 s.2) (fun s => s) (by omega) (by omega) ⟨rfl, rfl, fun z hz => absurd hz (by omega)⟩
    (fun f s hs => by
      show l_X0_beginAll_2 (f + 1) _ _ = _
      unfold l_X0_beginAll_2
      rw [hs.1, e, if_pos (nI_le (Nat.le_refl _) (by omega))])
    (fun f i s hi hs => by
      obtain ⟨s1, s2, s3⟩ := hs
      refine ⟨f_X7_begin (5 + 2 * i) s, ?_, s1, ?_, fun z hz => ?_⟩
      · show l_X0_beginAll_2 (f + 1) _ _ = l_X0_beginAll_2 f _ _
        conv => lhs; unfold l_X0_beginAll_2
        rw [s1, e, if_neg (nI_ge hi (by omega)), if_pos (r_in (show i < 9 by omega) (by decide)), r_cl (by omega), nI_1]
      · unfold f_X7_begin
        rw [r_rowL (by omega), r_rowL (by omega), s2]
      · have hz9 : ¬ 5 + 2 * z = 62 ∧ ¬ 5 + 2 * z = 3 := by omega
        by_cases hzi : z = i
        · subst hzi
          unfold f_X7_begin At9
          rw [r_wl2, if_neg (by omega), r_wl2, if_pos ⟨rfl, rfl⟩, r_wl2, if_pos ⟨rfl, rfl⟩, r_wl1, s1, hF _ hz9.1 hz9.2, (hS z hi).2.1, (hS z hi).2.2.1]
          exact ⟨rfl, rfl⟩
        · unfold f_X7_begin At9
          rw [r_rowL (by omega), r_rowL (by omega)]
          exact s3 z (by omega))
  refine ⟨m', ?_, b1, b2, b3⟩
  unfold f_X0_beginAll
  rw [show l_X0_beginAll_2 7000 0 m = some m' from q]
  rfl
theorem moveAll9 {I : Nat → Nat → Int32} {p c n t : Nat} {m : q_Mm} (hn : n ≤ 9) (hF : Fr I m.1) (e : m.1 3 1 = nI n) (hP : Pl I p c) (hS : ∀ z, z < n → Sp I z) (ht : t ≤ 600) (hA : ∀ z, z < n → At9 I p c z t m.2) : ∃ m', f_X0_moveAll (46 + 3 * p) (nI t) m = some m' ∧ m'.1 = m.1 ∧ m'.2 3 = m.2 3 ∧ ∀ z, z < n → At9 I p c z (t + 1) m'.2 := by
  obtain ⟨m', q, b1, b2, b3, b4⟩ := qlp7 (fun f i (s : q_Mm) => l_X0_moveAll_3 f (46 + 3 * p) (nI t) (nI i) s) n 0 m (fun i s => s.1 = m.1 ∧ s.2 3 = m.2 3 ∧ (∀ z, z < i → At9 I p c z (t + 1) s.2) ∧ ∀ z, i ≤ z → z < n → At9 I p c z t s.2) (fun s => s) (by omega) (by omega) ⟨rfl, rfl, fun z hz => absurd hz (by omega), fun z _ hz => hA z hz⟩
    (fun f s hs => by
      show l_X0_moveAll_3 (f + 1) _ _ _ _ = _
      unfold l_X0_moveAll_3
      rw [hs.1, e, if_pos (nI_le (Nat.le_refl _) (by omega))])
    (fun f i s hi hs => by
      obtain ⟨s1, s2, s3, s4⟩ := hs
      have hF' : Fr I s.1 := by rw [s1]; exact hF
      have h65 : s.1 65 = I 65 := hF' 65 (by decide) (by decide)
      have mv := mv9 (m := s) (Pl_u hF' hP) (Sp_u hF' (hS i hi)) ht
      rw [cr9_u (by omega) hF', h65] at mv
      refine ⟨q_wl (q_wl s (5 + 2 * i) 5 (s.2 (5 + 2 * i) 5 + (vX (cr9 I p c i t)).toInt64 * (I 65 i).toInt64)) (5 + 2 * i) 6 (s.2 (5 + 2 * i) 6 + (vY (cr9 I p c i t)).toInt64 * (I 65 i).toInt64), ?_, s1, ?_, fun z hz => ?_, fun z h1 h2 => ?_⟩
      · show l_X0_moveAll_3 (f + 1) _ _ _ _ = l_X0_moveAll_3 f _ _ _ _
        conv => lhs; unfold l_X0_moveAll_3
        rw [show s.1 3 1 = nI n by rw [s1]; exact e, if_neg (nI_ge hi (by omega)), if_pos (r_in (show i < 9 by omega) (by decide)), r_cl (by omega), mv, Option.bind_some, nI_1]
      · rw [r_rowL (by omega), r_rowL (by omega), s2]
      · by_cases hzi : z = i
        · subst hzi
          unfold At9
          rw [r_wl2, if_neg (by omega), r_wl2, if_pos ⟨rfl, rfl⟩, r_wl2, if_pos ⟨rfl, rfl⟩, (s4 z (by omega) hi).1, (s4 z (by omega) hi).2]
          exact ⟨rfl, rfl⟩
        · unfold At9
          rw [r_rowL (by omega), r_rowL (by omega)]
          exact s3 z (by omega)
      · unfold At9
        rw [r_rowL (by omega), r_rowL (by omega)]
        exact s4 z (by omega) h2)
  refine ⟨m', ?_, b1, b2, b3⟩
  unfold f_X0_moveAll
  rw [show l_X0_moveAll_3 7000 (46 + 3 * p) (nI t) 0 m = some m' from q]
  rfl
theorem begin10 {I : Nat → Nat → Int32} {p c n : Nat} {m : q_Mm} (hn : n ≤ 9) (hF : Fr I m.1) (e : m.1 58 11 = nI n) : ∃ m', f_X10_begin m = some m' ∧ m'.1 = m.1 ∧ ∀ z, z < n → At10 I p c z 0 m'.2 := by
  obtain ⟨m', q, b1, b3⟩ := qlp7 (fun f i (s : q_Mm) => l_X10_begin_2 f (nI i) s) n 0 m (fun i s => s.1 = m.1 ∧ ∀ z, z < i → At10 I p c z 0 s.2) (fun s => s) (by omega) (by omega) ⟨rfl, fun z hz => absurd hz (by omega)⟩
    (fun f s hs => by
      show l_X10_begin_2 (f + 1) _ _ = _
      unfold l_X10_begin_2
      rw [hs.1, e, if_pos (nI_le (Nat.le_refl _) (by omega))])
    (fun f i s hi hs => by
      obtain ⟨s1, s3⟩ := hs
      refine ⟨q_wl (q_wl s 70 i (s.1 63 i).toInt64) 71 i (s.1 64 i).toInt64, ?_, s1, fun z hz => ?_⟩
      · show l_X10_begin_2 (f + 1) _ _ = l_X10_begin_2 f _ _
        conv => lhs; unfold l_X10_begin_2
        rw [show s.1 58 11 = nI n by rw [s1]; exact e, if_neg (nI_ge hi (by omega)), if_pos (r_in (show i < 9 by omega) (by decide)), if_pos (r_in (show i < 9 by omega) (by decide)), if_pos (r_in (show i < 9 by omega) (by decide)), if_pos (r_in (show i < 9 by omega) (by decide)), r_cl (by omega), nI_1, r_wl1]
      · unfold At10
        by_cases hzi : z = i
        · subst hzi
          rw [r_rowL (by decide), r_wl2, if_pos ⟨rfl, rfl⟩, r_wl2, if_pos ⟨rfl, rfl⟩, s1, hF 63 (by decide) (by decide), hF 64 (by decide) (by decide)]
          exact ⟨rfl, rfl⟩
        · rw [r_rowL (by decide), r_wl2, if_neg (fun q => hzi q.2), r_wl2, if_neg (fun q => hzi q.2), r_rowL (by decide)]
          exact s3 z (by omega))
  refine ⟨m', ?_, b1, b3⟩
  unfold f_X10_begin
  rw [show l_X10_begin_2 7000 0 m = some m' from q]
  rfl
theorem stepAll10 {I : Nat → Nat → Int32} {p c n t : Nat} {m : q_Mm} (hn : n ≤ 9) (hI : Inv m) (hF : Fr I m.1) (e : m.1 58 11 = nI n) (hP : Pl I p c) (hS : ∀ z, z < n → Sp I z) (ht : t ≤ 600) (hA : ∀ z, z < n → At10 I p c z t m.2) : ∃ m', f_X10_stepAll (nI t) m = some m' ∧ (∀ q, ¬ q = 62 → m'.1 q = m.1 q) ∧ ∀ z, z < n → At10 I p c z (t + 1) m'.2 := by
  obtain ⟨m', q, b1, b3, b4⟩ := qlp7 (fun f i (s : q_Mm) => l_X10_stepAll_2 f (nI t) (nI i) s) n 0 m (fun i s => (∀ q, ¬ q = 62 → s.1 q = m.1 q) ∧ (∀ z, z < i → At10 I p c z (t + 1) s.2) ∧ ∀ z, i ≤ z → z < n → At10 I p c z t s.2) (fun s => s) (by omega) (by omega) ⟨fun _ _ => rfl, fun z hz => absurd hz (by omega), fun z _ hz => hA z hz⟩
    (fun f s hs => by
      show l_X10_stepAll_2 (f + 1) _ _ _ = _
      unfold l_X10_stepAll_2
      rw [hs.1 58 (by decide), e, if_pos (nI_le (Nat.le_refl _) (by omega))])
    (fun f i s hi hs => by
      obtain ⟨s1, s3, s4⟩ := hs
      have hIs : Inv s := Inv_s (fun k j hk => by
        rw [s1 k (fun z => by subst z; rw [show sA 62 j = false from rfl] at hk; exact Bool.noConfusion hk)]) hI
      obtain ⟨m1, a1, a2, a3, a4⟩ := layM10 hIs (s := i) (by omega)
      have hF' : Fr I m1.1 := fun q h1 h2 => by rw [a3 q h1, s1 q h1, hF q h1 h2]
      have hF0 : Fr I s.1 := fun q h1 h2 => by rw [s1 q h1, hF q h1 h2]
      have h65 : m1.1 65 = I 65 := hF' 65 (by decide) (by decide)
      have st := st10 (m := q_wl (q_wl m1 58 5 (m1.2 70 i)) 58 6 (m1.2 71 i)) (s := i) (t := t) (p := p) (c := c) (Pl_u hF' hP) (Sp_u hF' (hS i hi)) (fun h hh => by
        show m1.1 62 h = msF m1.1 i h
        rw [a4 h hh, msF_u (by omega) hF0, msF_u (by omega) hF']) ht
      have i9 : i < 9 := by omega
      have x5 : (q_wl (q_wl m1 58 5 (m1.2 70 i)) 58 6 (m1.2 71 i)).2 58 5 = psX I p c i t := by
        rw [r_wl2, if_neg (by omega), r_wl2, if_pos ⟨rfl, rfl⟩, a2, (s4 i (Nat.le_refl _) hi).1]
      have x6 : (q_wl (q_wl m1 58 5 (m1.2 70 i)) 58 6 (m1.2 71 i)).2 58 6 = psY I p c i t := by
        rw [r_wl2, if_pos ⟨rfl, rfl⟩, a2, (s4 i (Nat.le_refl _) hi).2]
      rw [x5, x6, r_wl1, r_wl1, cr9_u i9 hF', h65] at st
      have hold : ∀ z, ¬ z = i → (q_wl (q_wl (q_wl (q_wl (q_wl (q_wl m1 58 5 (m1.2 70 i)) 58 6 (m1.2 71 i)) 58 5 (psX I p c i t + (vX (cr9 I p c i t)).toInt64 * (I 65 i).toInt64)) 58 6 (psY I p c i t + (vY (cr9 I p c i t)).toInt64 * (I 65 i).toInt64)) 70 i (psX I p c i t + (vX (cr9 I p c i t)).toInt64 * (I 65 i).toInt64)) 71 i (psY I p c i t + (vY (cr9 I p c i t)).toInt64 * (I 65 i).toInt64)).2 70 z = m1.2 70 z ∧ (q_wl (q_wl (q_wl (q_wl (q_wl (q_wl m1 58 5 (m1.2 70 i)) 58 6 (m1.2 71 i)) 58 5 (psX I p c i t + (vX (cr9 I p c i t)).toInt64 * (I 65 i).toInt64)) 58 6 (psY I p c i t + (vY (cr9 I p c i t)).toInt64 * (I 65 i).toInt64)) 70 i (psX I p c i t + (vX (cr9 I p c i t)).toInt64 * (I 65 i).toInt64)) 71 i (psY I p c i t + (vY (cr9 I p c i t)).toInt64 * (I 65 i).toInt64)).2 71 z = m1.2 71 z := fun z hzi => by
        constructor
        · rw [r_wl2, if_neg (by omega), r_wl2, if_neg (by omega), r_wl2, if_neg (by omega), r_wl2, if_neg (by omega), r_wl2, if_neg (by omega), r_wl2, if_neg (by omega)]
        · rw [r_wl2, if_neg (by omega), r_wl2, if_neg (by omega), r_wl2, if_neg (by omega), r_wl2, if_neg (by omega), r_wl2, if_neg (by omega), r_wl2, if_neg (by omega)]
      refine ⟨q_wl (q_wl (q_wl (q_wl (q_wl (q_wl m1 58 5 (m1.2 70 i)) 58 6 (m1.2 71 i)) 58 5 (psX I p c i t + (vX (cr9 I p c i t)).toInt64 * (I 65 i).toInt64)) 58 6 (psY I p c i t + (vY (cr9 I p c i t)).toInt64 * (I 65 i).toInt64)) 70 i (psX I p c i t + (vX (cr9 I p c i t)).toInt64 * (I 65 i).toInt64)) 71 i (psY I p c i t + (vY (cr9 I p c i t)).toInt64 * (I 65 i).toInt64), ?_, fun q hq => ?_, fun z hz => ?_, fun z h1 h2 => ?_⟩
      · show l_X10_stepAll_2 (f + 1) _ _ _ = l_X10_stepAll_2 f _ _ _
        conv => lhs; unfold l_X10_stepAll_2
        rw [s1 58 (by decide), e, if_neg (nI_ge hi (by omega)), a1, Option.bind_some, if_pos (r_in i9 (by decide)), if_pos (r_in i9 (by decide)), if_pos (r_in i9 (by decide)), if_pos (r_in i9 (by decide)), r_cl (by omega), r_rowL (show ¬ 71 = 58 by decide), r_wl1, r_wl1, h65, st, Option.bind_some, if_pos (r_in i9 (by decide)), if_pos (r_in i9 (by decide)), nI_1]
        rw [r_rowL (show ¬ 58 = 70 by decide)]
        rfl
      · rw [r_wl1, r_wl1, r_wl1, r_wl1, r_wl1, r_wl1, a3 q hq, s1 q hq]
      · unfold At10
        by_cases hzi : z = i
        · subst hzi
          rw [r_rowL (by decide), r_wl2, if_pos ⟨rfl, rfl⟩, r_wl2, if_pos ⟨rfl, rfl⟩]
          exact ⟨rfl, rfl⟩
        · rw [(hold z hzi).1, (hold z hzi).2, a2]
          exact s3 z (by omega)
      · unfold At10
        have hzi : ¬ z = i := by omega
        rw [(hold z hzi).1, (hold z hzi).2, a2]
        exact s4 z (by omega) h2)
  refine ⟨m', ?_, b1, b3⟩
  unfold f_X10_stepAll
  rw [show l_X10_stepAll_2 7000 (nI t) 0 m = some m' from q]
  rfl
