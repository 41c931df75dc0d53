/-! PURE: routes: the class weighs a cell -/
def cvN (v : Nat) : Nat := if v = dpN then 536870912 else v / 10000 * 4096 + v / 100 % 100 * 64 + v % 100
theorem v_dec (v : Nat) : v = 10000 * (v / 10000) + 100 * (v / 100 % 100) + v % 100 ∧ v / 100 / 100 = v / 10000 := by
  have := Nat.div_div_eq_div_mul v 100 100
  have h2 : v / 100 / 100 = v / 10000 := this
  refine ⟨?_, h2⟩
  omega
theorem v_uni {v a b c : Nat} (h : v = 10000 * a + 100 * b + c) (hb : b < 100) (hc : c < 100) : v / 10000 = a ∧ v / 100 % 100 = b ∧ v % 100 = c := by
  omega
theorem cv_bd {d f v : Nat} (h : dpW d f v) (hd : d ≤ 60) (hn : ¬ v = dpN) : cvN v = v / 10000 * 4096 + v / 100 % 100 * 64 + v % 100 ∧ cvN v < 536870912 ∧ v < dpN := by
  unfold cvN dpN at *
  rw [if_neg hn]
  rcases h with h | h
  · exact absurd h hn
  · omega
theorem cv_N : cvN dpN = 536870912 := by unfold cvN; rw [if_pos rfl]
theorem cv_le {d f v : Nat} (h : dpW d f v) (hd : d ≤ 60) : cvN v ≤ 536870912 := by
  by_cases hn : v = dpN
  · rw [hn, cv_N]; exact Nat.le_refl _
  · have := cv_bd h hd hn
    omega
theorem cv_lt {d f d' f' v w : Nat} (hv : dpW d f v) (hw : dpW d' f' w) (hd : d ≤ 60) (hd' : d' ≤ 60) : cvN v < cvN w ↔ v < w := by
  by_cases h1 : v = dpN
  · have := cv_le hw hd'
    have := dpW_le hw (by omega)
    rw [h1, cv_N]
    omega
  · obtain ⟨a1, a2, a3⟩ := cv_bd hv hd h1
    by_cases h2 : w = dpN
    · rw [h2, cv_N]
      omega
    · obtain ⟨b1, b2, b3⟩ := cv_bd hw hd' h2
      rw [a1, b1]
      rcases hv with hv | hv
      · exact absurd hv h1
      · rcases hw with hw | hw
        · exact absurd hw h2
        · have v1 := (v_dec v).1
          have v2 := (v_dec w).1
          generalize v / 10000 = va at *
          generalize v / 100 % 100 = vb at *
          generalize v % 100 = vc at *
          generalize w / 10000 = wa at *
          generalize w / 100 % 100 = wb at *
          generalize w % 100 = wc at *
          clear a1 b1 a2 b2
          rcases Nat.lt_trichotomy va wa with z | z | z
          · omega
          · rcases Nat.lt_trichotomy vb wb with z2 | z2 | z2 <;> omega
          · omega
theorem cv_A {d f v g s : Nat} (h : dpW d f v) (hd : d ≤ 40) (hg : g ≤ 99) (hs : s ≤ 1) : cvN (dpA v g s) = if v = dpN then 536870912 else cvN v + g * 4096 + 64 + s := by
  unfold dpA
  by_cases hn : v = dpN
  · rw [if_pos hn, if_pos hn, cv_N]
  · rw [if_neg hn, if_neg hn]
    have hb := cv_bd h (by omega) hn
    have h2 := dpA_W h hg hs (by omega)
    unfold dpA at h2
    rw [if_neg hn] at h2
    have hn2 : ¬ v + 10000 * g + 100 + s = dpN := by
      rcases h with h | h
      · exact absurd h hn
      · unfold dpN; omega
    have hb2 := cv_bd h2 (by omega) hn2
    rw [hb.1, hb2.1]
    rcases h with h | h
    · exact absurd h hn
    · have v1 := (v_dec v).1
      have v2 := v_uni (v := v + 10000 * g + 100 + s) (a := v / 10000 + g) (b := v / 100 % 100 + 1) (c := v % 100 + s) (by
        generalize v / 10000 = va at *
        generalize v / 100 % 100 = vb at *
        generalize v % 100 = vc at *
        omega) (by omega) (by omega)
      rw [v2.1, v2.2.1, v2.2.2]
      omega
/-- the class's search -/
def ClS (I : Nat → Nat → Int32) (e : Int32) (G Id fm to S : Nat) : Prop := Ge I e ∧ (∀ c, c < 144 → I 33 c = I 81 c ∧ -1 ≤ (I 81 c).toInt ∧ (I 81 c).toInt ≤ 99) ∧ G + Id ≤ 40 ∧ fm < 144 ∧ to < 144 ∧ S ≤ 42 ∧ ∀ day, day < 42 → (S ≤ day ↔ ∀ k, k < 42 → day ≤ k → aptB I e.toInt to k = true)
def ClM (I : Nat → Nat → Int32) (e : Int32) (G Id fm to S : Nat) (s : q_Mm) : Prop := (∀ q, ¬ q = 89 → ¬ q = 90 → s.1 q = I q) ∧ s.1 89 4 = nI fm ∧ s.1 89 5 = nI to ∧ s.1 89 6 = nI G ∧ s.1 89 7 = nI Id ∧ s.1 89 8 = e ∧ s.1 89 9 = nI S
theorem ClS_D {I : Nat → Nat → Int32} {e : Int32} {G Id fm to S : Nat} (h : ClS I e G Id fm to S) : Dg I := fun c hc => ⟨(h.2.1 c hc).2.1, (h.2.1 c hc).2.2⟩
/-- the cost, if the cell is free -/
def cfD (I : Nat → Nat → Int32) (e : Int32) (T to d f c : Nat) : Nat := dpF (frD I e.toInt T) (dpC (frD I e.toInt T) (enD I e.toInt T to) (dgD I) d) d f c
theorem cfD_W {I : Nat → Nat → Int32} {e : Int32} {T to d f c : Nat} (h : Dg I) (hd : d ≤ 80) : dpW d f (cfD I e T to d f c) := by
  unfold cfD dpF
  split
  · exact dpC_W (dgD_le h) d hd f c
  · exact .inl rfl
theorem cfD_ne {I : Nat → Nat → Int32} {e : Int32} {T to d f c : Nat} (hc : c < 144) (h : ¬ cfD I e T to d f c = dpN) : I 81 c = nI (dgD I c) := fdB_dg hc (dpF_ne h).1
theorem cfD_sat {I : Nat → Nat → Int32} {e : Int32} {T to d f f' c : Nat} (h : d ≤ f) (h' : d ≤ f') : cfD I e T to d f c = cfD I e T to d f' c := by
  unfold cfD dpF
  rw [dpC_sat d f f' c h h']
theorem sv2 : ∀ m, m < 9 → (q_sv 2 m).toInt = dpX m := by decide +kernel
theorem sv3 : ∀ m, m < 9 → (q_sv 3 m).toInt = dpY m := by decide +kernel
theorem aptCl {I : Nat → Nat → Int32} {e : Int32} {G Id fm to S c day : Nat} {s : q_Mm} (hC : ClS I e G Id fm to S) (hM : ClM I e G Id fm to S s) (hc : c < 144) (hd : day < 100) : f_X4_isApart (nI c) (nI day) s = some (if aptB I e.toInt c day = true then 1 else 0) := by
  have h1 := hM.1 34 (by decide) (by decide)
  have h2 := hM.1 35 (by decide) (by decide)
  have hca : ∀ k, caA s.1 k = caA I k := fun k => by unfold caA; rw [h1, h2]
  rw [apt9 (s := s) (by
    rw [hM.2.2.2.2.2.1]
    rcases hC.1 with w | ⟨a, b, d, d1, d2, d3, d4⟩
    · exact .inl w
    · exact .inr ⟨a, b, d, d1, by rw [h1]; exact d2, by rw [hM.1 83 (by decide) (by decide)]; exact d3, by rw [h2, hM.1 82 (by decide) (by decide)]; exact d4⟩) hc hd]
  unfold aptB
  rw [hca, hca, hca, hM.2.2.2.2.2.1]
theorem day9 {I : Nat → Nat → Int32} {e : Int32} {G Id fm to S g i : Nat} {s : q_Mm} (hC : ClS I e G Id fm to S) (hM : ClM I e G Id fm to S s) (hg : g ≤ G) (hi : i ≤ Id) : f_X4_dayOf (nI g) (nI i) s = nI (G + Id - (g + i)) := by
  have := hC.2.2.1
  unfold f_X4_dayOf
  rw [hM.2.2.2.1, hM.2.2.2.2.1, nI_add, nI_sub' (by omega) (by omega), nI_sub' (by omega) (by omega), show G + Id - g - i = G + Id - (g + i) by omega]
theorem ends9 {I : Nat → Nat → Int32} {e : Int32} {G Id fm to S c d : Nat} {s : q_Mm} (hC : ClS I e G Id fm to S) (hM : ClM I e G Id fm to S s) (hc : c < 144) (hd : d ≤ G + Id) (hf : frD I e.toInt (G + Id) c d = true) : f_X4_endsAt (nI c) (nI (G + Id - d)) s = if enD I e.toInt (G + Id) to c d = true then 1 else 0 := by
  obtain ⟨_, _, hGI, hfm, hto, hS, hSS⟩ := hC
  unfold frD fdB at hf
  rw [Bool.and_eq_true] at hf
  unfold f_X4_endsAt enD
  rw [hM.2.2.1, hM.2.2.2.2.2.2]
  by_cases hct : c = to
  · subst hct
    rw [if_pos rfl, decide_eq_true rfl, Bool.true_and]
    have e1 : (alB (fdB I e.toInt c) (G + Id - d) = true) ↔ S ≤ G + Id - d := by
      rw [alB_iff (by omega), hSS _ (by omega)]
      constructor
      · intro w k k1 k2
        have := w k k1 k2
        unfold fdB at this
        rw [Bool.and_eq_true] at this
        exact this.2
      · intro w k k1 k2
        unfold fdB
        rw [hf.1, w k k1 k2]
        rfl
    by_cases hs : S ≤ G + Id - d
    · rw [if_neg (show ¬ nI (G + Id - d) < nI S by rw [r_lt, r_nI (by omega), r_nI (by omega)]; omega), if_pos (e1.mpr hs)]
    · rw [if_pos (show nI (G + Id - d) < nI S by rw [r_lt, r_nI (by omega), r_nI (by omega)]; omega), if_neg (fun w => hs (e1.mp w))]
  · rw [if_neg (fun w => hct ((nI_eq (by omega) (by omega)).mp w)), decide_eq_false hct]
    rfl
theorem wgo9 {I : Nat → Nat → Int32} {e : Int32} {G Id fm to S g d x y m : Nat} {s : q_Mm} (hC : ClS I e G Id fm to S) (hM : ClM I e G Id fm to S s) (hg : g + 1 ≤ G) (hd : d ≤ 40) (hx : x < 12) (hy : y < 12) (hm : 1 ≤ m) (hm' : m ≤ 8) (hv : dpV (12 * y + x) m → s.1 90 (144 * g + dpT (12 * y + x) m) = nI (cvN (cfD I e (G + Id) to d g (dpT (12 * y + x) m)))) : f_X4_worthOfGoing (nI (g + 1) - 1) (nI x + q_sv 2 m) (nI y + q_sv 3 m) s = some (nI (cvN (dpB (frD I e.toInt (G + Id)) (dgD I) (dpC (frD I e.toInt (G + Id)) (enD I e.toInt (G + Id) to) (dgD I) d) d (g + 1) (12 * y + x) m))) := by
  have h1 := dpX_in m
  have h2 := dpY_in m
  have hGI := hC.2.2.1
  have cx : (12 * y + x) % 12 = x := by omega
  have cy : (12 * y + x) / 12 = y := by omega
  have ex : (nI x + q_sv 2 m).toInt = (x : Int) + dpX m := by
    rw [Int32.toInt_add, r_nI (by omega), sv2 m (by omega), Int.bmod_eq_of_le (by omega) (by omega)]
  have ey : (nI y + q_sv 3 m).toInt = (y : Int) + dpY m := by
    rw [Int32.toInt_add, r_nI (by omega), sv3 m (by omega), Int.bmod_eq_of_le (by omega) (by omega)]
  have z0 : (0 : Int32).toInt = 0 := rfl
  have z12 : (12 : Int32).toInt = 12 := rfl
  have zN : (536870912 : Int32).toInt = 536870912 := rfl
  unfold f_X4_worthOfGoing
  rw [nI_m1 (by omega), show g + 1 - 1 = g by omega]
  by_cases hV : dpV (12 * y + x) m
  · have hV' := hV
    obtain ⟨v1, v2, v3, v4⟩ := hV'
    rw [cx] at v1 v2
    rw [cy] at v3 v4
    have hT := dpT_xy hV
    rw [cx, cy] at hT
    have et : 12 * (nI y + q_sv 3 m) + (nI x + q_sv 2 m) = nI (dpT (12 * y + x) m) := by
      have e12 : (12 * (nI y + q_sv 3 m)).toInt = 12 * ((y : Int) + dpY m) := by
        rw [Int32.toInt_mul, ey, z12, Int.bmod_eq_of_le (by omega) (by omega)]
      rw [r_eq, Int32.toInt_add, e12, ex, r_nI (by omega), Int.bmod_eq_of_le (by omega) (by omega)]
      omega
    have ei : nI g * 144 + nI (dpT (12 * y + x) m) = nI (144 * g + dpT (12 * y + x) m) := by
      rw [show (144 : Int32) = nI 144 from rfl, pk_mul, nI_add, Nat.mul_comm]
    have hW := cfD_W (e := e) (T := G + Id) (to := to) (d := d) (f := g) (c := dpT (12 * y + x) m) (ClS_D hC) (by omega)
    rw [if_neg (show ¬ nI x + q_sv 2 m < 0 by rw [r_lt, ex, z0]; omega), if_neg (show ¬ 12 ≤ nI x + q_sv 2 m by rw [r_le, ex, z12]; omega), if_neg (show ¬ nI y + q_sv 3 m < 0 by rw [r_lt, ey, z0]; omega), if_pos (show nI y + q_sv 3 m < 12 by rw [r_lt, ey, z12]; omega), et, ei, if_pos (r_in (show 144 * g + dpT (12 * y + x) m < 5904 by omega) (by decide)), r_cl (by omega), if_pos (r_in hT.2.2 (by decide)), r_cl (show dpT (12 * y + x) m < 2 ^ 31 by omega), hv hV]
    unfold dpB
    rw [if_neg (show ¬ m = 0 by omega), if_pos (show dpV (12 * y + x) m ∧ 0 < g + 1 from ⟨hV, by omega⟩), show g + 1 - 1 = g by omega]
    show _ = some (nI (cvN (dpA (cfD I e (G + Id) to d g (dpT (12 * y + x) m)) _ 1)))
    rw [cv_A hW hd (dgD_le (ClS_D hC) _) (by decide)]
    by_cases hn : cfD I e (G + Id) to d g (dpT (12 * y + x) m) = dpN
    · rw [if_pos hn, hn, cv_N, if_pos (by decide)]
      rfl
    · have hb := cv_bd hW (by omega) hn
      rw [if_neg hn, if_neg (show ¬ (536870912 : Int32) ≤ nI (cvN (cfD I e (G + Id) to d g (dpT (12 * y + x) m))) by rw [r_le, r_nI (by omega), zN]; omega), hM.1 33 (by decide) (by decide), (hC.2.1 _ hT.2.2).1, cfD_ne hT.2.2 hn, show (4096 : Int32) = nI 4096 from rfl, show (64 : Int32) = nI 64 from rfl, show (1 : Int32) = nI 1 from rfl, pk_mul, nI_add, nI_add, nI_add]
  · have hb : dpB (frD I e.toInt (G + Id)) (dgD I) (dpC (frD I e.toInt (G + Id)) (enD I e.toInt (G + Id) to) (dgD I) d) d (g + 1) (12 * y + x) m = dpN := by
      unfold dpB
      rw [if_neg (by omega), if_neg (fun w => hV w.1)]
    rw [hb, cv_N]
    by_cases a1 : (x : Int) + dpX m < 0
    · rw [if_pos (show nI x + q_sv 2 m < 0 by rw [r_lt, ex, z0]; omega)]; rfl
    · rw [if_neg (show ¬ nI x + q_sv 2 m < 0 by rw [r_lt, ex, z0]; omega)]
      by_cases a2 : 12 ≤ (x : Int) + dpX m
      · rw [if_pos (show 12 ≤ nI x + q_sv 2 m by rw [r_le, ex, z12]; omega)]; rfl
      · rw [if_neg (show ¬ 12 ≤ nI x + q_sv 2 m by rw [r_le, ex, z12]; omega)]
        by_cases a3 : (y : Int) + dpY m < 0
        · rw [if_pos (show nI y + q_sv 3 m < 0 by rw [r_lt, ey, z0]; omega)]; rfl
        · rw [if_neg (show ¬ nI y + q_sv 3 m < 0 by rw [r_lt, ey, z0]; omega)]
          have a4 : ¬ (y : Int) + dpY m < 12 := fun w => hV ⟨by rw [cx]; omega, by rw [cx]; omega, by rw [cy]; omega, by rw [cy]; omega⟩
          rw [if_neg (show ¬ nI y + q_sv 3 m < 12 by rw [r_lt, ey, z12]; omega)]
          rfl
theorem wst9 {I : Nat → Nat → Int32} {e : Int32} {G Id fm to S g i d c : Nat} {s : q_Mm} (hC : ClS I e G Id fm to S) (hM : ClM I e G Id fm to S s) (hg : g ≤ G) (hi : i ≤ Id) (hd : d + 1 = g + i) (hc : c < 144) (hl : I 81 c = nI (dgD I c)) (h1 : 0 < i → s.1 90 (144 * g + c) = nI (cvN (cfD I e (G + Id) to d g c))) (h2 : i = 0 → 0 < g → s.1 90 (144 * (g - 1) + c) = nI (cvN (cfD I e (G + Id) to (g - 1) (g - 1) c))) : f_X4_worthOfStaying (nI g) (nI i) (nI c) s = some (nI (cvN (dpB (frD I e.toInt (G + Id)) (dgD I) (dpC (frD I e.toInt (G + Id)) (enD I e.toInt (G + Id) to) (dgD I) d) d g c 0))) := by
  have hGI := hC.2.2.1
  have zN : (536870912 : Int32).toInt = 536870912 := rfl
  have hW := cfD_W (e := e) (T := G + Id) (to := to) (d := d) (f := g) (c := c) (ClS_D hC) (by omega)
  have fin : ∀ v, v = cfD I e (G + Id) to d g c → (if 536870912 ≤ nI (cvN v) then some (536870912 : Int32) else if q_in (nI c) 144 = true then some ((nI (cvN v) + (s.1 33 (nI c).toNatClampNeg) * 4096) + 64) else none) = some (nI (cvN (dpB (frD I e.toInt (G + Id)) (dgD I) (dpC (frD I e.toInt (G + Id)) (enD I e.toInt (G + Id) to) (dgD I) d) d g c 0))) := by
    intro v hv
    unfold dpB
    rw [if_pos rfl]
    show _ = some (nI (cvN (dpA (cfD I e (G + Id) to d g c) _ 0)))
    rw [cv_A hW (by omega) (dgD_le (ClS_D hC) _) (by decide), ← hv]
    rw [← hv] at hW
    by_cases hn : v = dpN
    · rw [if_pos hn, hn, cv_N, if_pos (by decide)]
      rfl
    · have hb := cv_bd hW (by omega) hn
      rw [if_neg hn, if_neg (show ¬ (536870912 : Int32) ≤ nI (cvN v) by rw [r_le, r_nI (by omega), zN]; omega), if_pos (r_in hc (by decide)), r_cl (by omega), hM.1 33 (by decide) (by decide), (hC.2.1 _ hc).1, hl, show (4096 : Int32) = nI 4096 from rfl, show (64 : Int32) = nI 64 from rfl, pk_mul, nI_add, nI_add]
  unfold f_X4_worthOfStaying
  by_cases hi0 : i = 0
  · rw [if_pos (show nI i ≤ 0 by rw [hi0]; decide), if_neg (show ¬ nI g ≤ 0 from fun w => by have := (nI_le0 (by omega)).mp w; omega), nI_m1 (by omega), show nI (g - 1) * 144 + nI c = nI (144 * (g - 1) + c) by rw [show (144 : Int32) = nI 144 from rfl, pk_mul, nI_add, Nat.mul_comm], if_pos (r_in (show 144 * (g - 1) + c < 5904 by omega) (by decide)), r_cl (show 144 * (g - 1) + c < 2 ^ 31 by omega), h2 hi0 (by omega)]
    exact fin _ (by rw [show d = g - 1 by omega]; exact cfD_sat (Nat.le_refl _) (by omega))
  · rw [if_neg (show ¬ nI i ≤ 0 from fun w => by have := (nI_le0 (by omega)).mp w; omega), show nI g * 144 + nI c = nI (144 * g + c) by rw [show (144 : Int32) = nI 144 from rfl, pk_mul, nI_add, Nat.mul_comm], if_pos (r_in (show 144 * g + c < 5904 by omega) (by decide)), r_cl (show 144 * g + c < 2 ^ 31 by omega), h1 (by omega)]
    exact fin _ rfl
