/-! PURE: routes: a row of worths -/
def inW (a r c : Nat) : Prop := ((c % 12 : Nat) : Int) ≤ ((a % 12 : Nat) : Int) + r ∧ ((a % 12 : Nat) : Int) ≤ ((c % 12 : Nat) : Int) + r ∧ ((c / 12 : Nat) : Int) ≤ ((a / 12 : Nat) : Int) + r ∧ ((a / 12 : Nat) : Int) ≤ ((c / 12 : Nat) : Int) + r
def Rs (I : Nat → Nat → Int32) (e : Int32) (G Id fm to S g i : Nat) (s0 : q_Mm) (done : Nat → Prop) (s : q_Mm) : Prop := ClM I e G Id fm to S s ∧ (∀ k, (k < 144 * g ∨ 144 * g + 144 ≤ k) → s.1 90 k = s0.1 90 k) ∧ (∀ c, c < 144 → done c → s.1 90 (144 * g + c) = nI (cvN (cfD I e (G + Id) to (g + i) g c)) ∧ Kok I e G Id to g i c s) ∧ (∀ c, c < 144 → ¬ done c → s.1 90 (144 * g + c) = s0.1 90 (144 * g + c)) ∧ ∀ g' i' c', g' ≤ G → c' < 144 → ¬ (g' = g ∧ i' = i) → kpS s G g' i' c' = kpS s0 G g' i' c'
theorem Kok_s {I : Nat → Nat → Int32} {e : Int32} {G Id to g i c : Nat} {s s' : q_Mm} (h : kpS s' G g i c = kpS s G g i c) (hk : Kok I e G Id to g i c s) : Kok I e G Id to g i c s' := fun a b d => by rw [h]; exact hk a b d
theorem Rs_c {I : Nat → Nat → Int32} {e : Int32} {G Id fm to S g i : Nat} {s0 s : q_Mm} {p q : Nat → Prop} (h : ∀ c, c < 144 → (p c ↔ q c)) (hR : Rs I e G Id fm to S g i s0 p s) : Rs I e G Id fm to S g i s0 q s := ⟨hR.1, hR.2.1, fun c hc hq => hR.2.2.1 c hc ((h c hc).mpr hq), fun c hc hq => hR.2.2.2.1 c hc (fun w => hq ((h c hc).mp w)), hR.2.2.2.2⟩
theorem Rs_w {I : Nat → Nat → Int32} {e : Int32} {G Id fm to S g i x y : Nat} {s0 s : q_Mm} {p : Nat → Prop} (hC : ClS I e G Id fm to S) (hg : g ≤ G) (hi : i ≤ Id)
    (hb1 : 0 < i → ∀ c, c < 144 → inW fm (G - g) c → s0.1 90 (144 * g + c) = nI (cvN (cfD I e (G + Id) to (g + i - 1) g c)))
    (hb2 : 0 < g → ∀ c, c < 144 → inW fm (G - (g - 1)) c → s0.1 90 (144 * (g - 1) + c) = nI (cvN (cfD I e (G + Id) to (g + i - 1) (g - 1) c)))
    (hx : x < 12) (hy : y < 12) (hw : inW fm (G - g) (12 * y + x)) (hnd : ¬ p (12 * y + x)) (hR : Rs I e G Id fm to S g i s0 p s) :
    ∃ s' r, f_X4_weigh (nI g) (nI i) (nI x) (nI y) s = some (r, s') ∧ Rs I e G Id fm to S g i s0 (fun c => p c ∨ c = 12 * y + x) (q_wi s' 90 (144 * g + (12 * y + x)) r) := by
  obtain ⟨r1, r2, r3, r4, r5⟩ := hR
  have hGI := hC.2.2.1
  have hc : 12 * y + x < 144 := by omega
  obtain ⟨s', e1, e2, e3, e4, e5⟩ := weigh9 (x := x) (y := y) hC r1 hg hi hx hy (fun h => by rw [r4 _ hc hnd]; exact hb1 h _ hc hw) (fun h h' => by
      subst h
      rw [r2 _ (.inl (by omega))]
      have := hb2 h' (12 * y + x) hc (by unfold inW at *; omega)
      rw [Nat.add_zero] at this
      exact this) (fun h' m m1 m2 m3 => by
      have hT := dpT_xy m3
      have := dpX_in m
      have := dpY_in m
      rw [r2 _ (.inl (by omega))]
      exact hb2 h' _ hT.2.2 (by unfold inW at *; omega))
  refine ⟨s', _, e1, ⟨?_, ?_, ?_, ?_, ?_⟩⟩
  · obtain ⟨m1, m2⟩ := r1
    refine ⟨fun q a b => by rw [r_row b, e2]; exact m1 q a b, ?_⟩
    rw [r_row (by decide), e2]
    exact m2
  · intro k hk
    rw [r_wi, if_neg (by omega), e2]
    exact r2 k hk
  · intro c hc' hp
    rw [r_wi]
    by_cases hcc : c = 12 * y + x
    · subst hcc
      rw [if_pos ⟨rfl, rfl⟩]
      exact ⟨rfl, Kok_s rfl e4⟩
    · rw [if_neg (by omega), e2]
      rcases hp with hp | hp
      · obtain ⟨z1, z2⟩ := r3 c hc' hp
        exact ⟨z1, Kok_s (e5 g i c hg hc' (fun w => hcc w.2.2)) z2⟩
      · exact absurd hp hcc
  · intro c hc' hp
    rw [r_wi, if_neg (fun w => hp (.inr (by omega))), e2]
    exact r4 c hc' (fun w => hp (.inl w))
  · intro g' i' c' a1 a2 a3
    rw [← r5 g' i' c' a1 a2 a3]
    exact e5 g' i' c' a1 a2 (fun w => a3 ⟨w.1, w.2.1⟩)
/-- cells of the window in lines fy to y - 1, and in line y from fx to x - 1 -/
def dnW (FX LX FY y x c : Nat) : Prop := (FY ≤ c / 12 ∧ c / 12 < y ∧ FX ≤ c % 12 ∧ c % 12 ≤ LX) ∨ (c / 12 = y ∧ FX ≤ c % 12 ∧ c % 12 < x ∧ c % 12 ≤ LX)
theorem row132 {I : Nat → Nat → Int32} {e : Int32} {G Id fm to S g i FX LX FY y : Nat} {s0 s : q_Mm} {y7 : Int32} (hC : ClS I e G Id fm to S) (hg : g ≤ G) (hi : i ≤ Id)
    (hb1 : 0 < i → ∀ c, c < 144 → inW fm (G - g) c → s0.1 90 (144 * g + c) = nI (cvN (cfD I e (G + Id) to (g + i - 1) g c)))
    (hb2 : 0 < g → ∀ c, c < 144 → inW fm (G - (g - 1)) c → s0.1 90 (144 * (g - 1) + c) = nI (cvN (cfD I e (G + Id) to (g + i - 1) (g - 1) c)))
    (hFX : FX ≤ 11) (hLX : LX ≤ 11) (hy : y < 12) (hw : ∀ x, FX ≤ x → x ≤ LX → inW fm (G - g) (12 * y + x)) (hR : Rs I e G Id fm to S g i s0 (dnW FX LX FY y FX) s) :
    ∃ s', l_X4_weighRow_132 7000 (nI g) (nI i) (nI FX) (nI LX) y7 (nI y) (nI FX) s = some s' ∧ Rs I e G Id fm to S g i s0 (dnW FX LX FY y 12) s' := by
  have hGI := hC.2.2.1
  obtain ⟨s', e1, e2, e3⟩ := qlp7 (fun f x (z : q_Mm) => l_X4_weighRow_132 f (nI g) (nI i) (nI FX) (nI LX) y7 (nI y) (nI x) z) (max FX (LX + 1)) FX s (fun x z => FX ≤ x ∧ Rs I e G Id fm to S g i s0 (dnW FX LX FY y x) z) (fun z => z) (by omega) (by omega) ⟨Nat.le_refl _, hR⟩
    (fun f z h => by
      show l_X4_weighRow_132 (f + 1) _ _ _ _ _ _ _ _ = _
      unfold l_X4_weighRow_132
      rw [if_pos (show nI LX < nI (max FX (LX + 1)) by rw [r_lt, r_nI (by omega), r_nI (by omega)]; omega)])
    (fun f x z hx ⟨h1, h2⟩ => by
      have hxL : x ≤ LX := by omega
      obtain ⟨z', r, w1, w2⟩ := Rs_w (x := x) (y := y) hC hg hi hb1 hb2 (by omega) hy (hw x h1 hxL) (fun w => by unfold dnW at w; omega) h2
      refine ⟨q_wi z' 90 (144 * g + (12 * y + x)) r, ?_, by omega, Rs_c (fun c hc => by unfold dnW; omega) w2⟩
      show l_X4_weighRow_132 (f + 1) _ _ _ _ _ _ _ _ = l_X4_weighRow_132 f _ _ _ _ _ _ _ _
      conv => lhs; unfold l_X4_weighRow_132
      rw [if_neg (show ¬ nI LX < nI x by rw [r_lt, r_nI (by omega), r_nI (by omega)]; omega), w1, Option.bind_some, show nI g * 144 + 12 * nI y + nI x = nI (144 * g + (12 * y + x)) by rw [show (144 : Int32) = nI 144 from rfl, show (12 : Int32) = nI 12 from rfl, pk_mul, pk_mul, nI_add, nI_add, show g * 144 + 12 * y + x = 144 * g + (12 * y + x) by omega], if_pos (r_in (show 144 * g + (12 * y + x) < 5904 by omega) (by decide)), r_cl (by omega), nI_1])
  exact ⟨s', e1, Rs_c (fun c hc => by unfold dnW; omega) e3⟩
theorem row121 {I : Nat → Nat → Int32} {e : Int32} {G Id fm to S g i FX LX FY LY : Nat} {s : q_Mm} (hC : ClS I e G Id fm to S) (hg : g ≤ G) (hi : i ≤ Id)
    (hb1 : 0 < i → ∀ c, c < 144 → inW fm (G - g) c → s.1 90 (144 * g + c) = nI (cvN (cfD I e (G + Id) to (g + i - 1) g c)))
    (hb2 : 0 < g → ∀ c, c < 144 → inW fm (G - (g - 1)) c → s.1 90 (144 * (g - 1) + c) = nI (cvN (cfD I e (G + Id) to (g + i - 1) (g - 1) c)))
    (hFX : FX ≤ 11) (hLX : LX ≤ 11) (hFY : FY ≤ 11) (hLY : LY ≤ 11) (hw : ∀ x y, FX ≤ x → x ≤ LX → FY ≤ y → y ≤ LY → inW fm (G - g) (12 * y + x)) (hM : ClM I e G Id fm to S s) :
    ∃ s', l_X4_weighRow_121 7000 (nI g) (nI i) (nI FX) (nI LX) (nI LY) (nI FY) s = some s' ∧ Rs I e G Id fm to S g i s (fun c => FY ≤ c / 12 ∧ c / 12 ≤ LY ∧ FX ≤ c % 12 ∧ c % 12 ≤ LX) s' := by
  obtain ⟨s', e1, e2, e3⟩ := qlp7 (fun f y (z : q_Mm) => l_X4_weighRow_121 f (nI g) (nI i) (nI FX) (nI LX) (nI LY) (nI y) z) (max FY (LY + 1)) FY s (fun y z => FY ≤ y ∧ Rs I e G Id fm to S g i s (dnW FX LX FY y FX) z) (fun z => z) (by omega) (by omega) ⟨Nat.le_refl _, hM, fun _ _ => rfl, fun c _ w => by unfold dnW at w; omega, fun _ _ _ => rfl, fun _ _ _ _ _ _ => rfl⟩
    (fun f z h => by
      show l_X4_weighRow_121 (f + 1) _ _ _ _ _ _ _ = _
      unfold l_X4_weighRow_121
      rw [if_pos (show nI LY < nI (max FY (LY + 1)) by rw [r_lt, r_nI (by omega), r_nI (by omega)]; omega)])
    (fun f y z hy ⟨h1, h2⟩ => by
      have hyL : y ≤ LY := by omega
      obtain ⟨z', w1, w2⟩ := row132 (y7 := nI LY) hC hg hi hb1 hb2 hFX hLX (by omega) (fun x a b => hw x y a b h1 hyL) h2
      refine ⟨z', ?_, by omega, Rs_c (fun c hc => by unfold dnW; omega) w2⟩
      show l_X4_weighRow_121 (f + 1) _ _ _ _ _ _ _ = l_X4_weighRow_121 f _ _ _ _ _ _ _
      conv => lhs; unfold l_X4_weighRow_121
      rw [if_neg (show ¬ nI LY < nI y by rw [r_lt, r_nI (by omega), r_nI (by omega)]; omega), w1, Option.bind_some, nI_1])
  exact ⟨s', e1, Rs_c (fun c hc => by unfold dnW; omega) e3⟩
theorem lim9 {a b G g : Nat} (ha : a < 12) (hb : b < 12) (hG : G ≤ 40) (hg : g ≤ G) : ∃ F L : Nat, F ≤ 11 ∧ L ≤ 11 ∧ q_max 0 (q_max (nI a - (nI G - nI g)) (nI b - nI g)) = nI F ∧ q_min 11 (q_min (nI a + (nI G - nI g)) (nI b + nI g)) = nI L ∧ ∀ x, x < 12 → ((F ≤ x ↔ (a : Int) ≤ x + (G - g : Nat) ∧ (b : Int) ≤ x + g) ∧ (x ≤ L ↔ (x : Int) ≤ a + (G - g : Nat) ∧ (x : Int) ≤ b + g)) := by
  have e1 : nI G - nI g = nI (G - g) := nI_sub' hg (by omega)
  have s1 : (nI a - nI (G - g)).toInt = (a : Int) - ((G - g : Nat) : Int) := by
    rw [sub_i, r_nI (by omega), r_nI (by omega)] <;> rw [r_nI (by omega), r_nI (by omega)] <;> omega
  have s2 : (nI b - nI g).toInt = (b : Int) - (g : Int) := by
    rw [sub_i, r_nI (by omega), r_nI (by omega)] <;> rw [r_nI (by omega), r_nI (by omega)] <;> omega
  have m1 : (q_max 0 (q_max (nI a - (nI G - nI g)) (nI b - nI g))).toInt = max 0 (max ((a : Int) - ((G - g : Nat) : Int)) ((b : Int) - (g : Int))) := by
    rw [q_max_i, q_max_i, e1, s1, s2]; rfl
  have m2 : (q_min 11 (q_min (nI a + (nI G - nI g)) (nI b + nI g))).toInt = min 11 (min ((a : Int) + ((G - g : Nat) : Int)) ((b : Int) + (g : Int))) := by
    rw [q_min_i, q_min_i, e1, nI_add, nI_add, r_nI (by omega), r_nI (by omega)]
    show min (11 : Int) _ = _
    omega
  obtain ⟨F, f1, f2⟩ := r_of (x := q_max 0 (q_max (nI a - (nI G - nI g)) (nI b - nI g))) (n := 12) (by rw [m1]; omega) (by rw [m1]; omega) (by decide)
  obtain ⟨L, l1, l2⟩ := r_of (x := q_min 11 (q_min (nI a + (nI G - nI g)) (nI b + nI g))) (n := 12) (by rw [m2]; omega) (by rw [m2]; omega) (by decide)
  rw [f2, r_nI (by omega)] at m1
  rw [l2, r_nI (by omega)] at m2
  exact ⟨F, L, by omega, by omega, f2, l2, fun x hx => ⟨by omega, by omega⟩⟩
theorem row9 {I : Nat → Nat → Int32} {e : Int32} {G Id fm to S g i : Nat} {s : q_Mm} (hC : ClS I e G Id fm to S) (hg : g ≤ G) (hi : i ≤ Id)
    (hb1 : 0 < i → ∀ c, c < 144 → inW fm (G - g) c → s.1 90 (144 * g + c) = nI (cvN (cfD I e (G + Id) to (g + i - 1) g c)))
    (hb2 : 0 < g → ∀ c, c < 144 → inW fm (G - (g - 1)) c → s.1 90 (144 * (g - 1) + c) = nI (cvN (cfD I e (G + Id) to (g + i - 1) (g - 1) c))) (hM : ClM I e G Id fm to S s) :
    ∃ s', f_X4_weighRow (nI g) (nI i) s = some s' ∧ Rs I e G Id fm to S g i s (fun c => inW fm (G - g) c ∧ inW to g c) s' := by
  have hC' := hC
  obtain ⟨_, _, hGI, hfm, hto, _⟩ := hC'
  obtain ⟨FX, LX, x1, x2, x3, x4, x5⟩ := lim9 (a := fm % 12) (b := to % 12) (G := G) (g := g) (by omega) (by omega) (by omega) hg
  obtain ⟨FY, LY, y1, y2, y3, y4, y5⟩ := lim9 (a := fm / 12) (b := to / 12) (G := G) (g := g) (by omega) (by omega) (by omega) hg
  have cx : ∀ x y : Nat, x < 12 → (12 * y + x) % 12 = x ∧ (12 * y + x) / 12 = y := fun x y h => by omega
  obtain ⟨s', e1, e2⟩ := row121 hC hg hi hb1 hb2 x1 x2 y1 y2 (fun x y a1 a2 a3 a4 => by
    unfold inW
    rw [(cx x y (by omega)).1, (cx x y (by omega)).2]
    have p1 := (x5 x (by omega)).1.mp a1
    have p2 := (x5 x (by omega)).2.mp a2
    have p3 := (y5 y (by omega)).1.mp a3
    have p4 := (y5 y (by omega)).2.mp a4
    exact ⟨p2.1, p1.1, p4.1, p3.1⟩) hM
  refine ⟨s', ?_, Rs_c (fun c hc => ?_) e2⟩
  · unfold f_X4_weighRow
    rw [hM.2.1, hM.2.2.1, hM.2.2.2.1, rem12 (by omega), rem12 (by omega), div12 (by omega), div12 (by omega), x3, x4, y3, y4, e1]
    rfl
  · have p1 := (x5 (c % 12) (by omega)).1
    have p2 := (x5 (c % 12) (by omega)).2
    have p3 := (y5 (c / 12) (by omega)).1
    have p4 := (y5 (c / 12) (by omega)).2
    rw [p1, p2, p3, p4]
    unfold inW
    constructor
    · intro ⟨a, b, c, d⟩
      exact ⟨⟨d.1, c.1, b.1, a.1⟩, ⟨d.2, c.2, b.2, a.2⟩⟩
    · intro ⟨⟨a1, a2, a3, a4⟩, b1, b2, b3, b4⟩
      exact ⟨⟨a4, b4⟩, ⟨a3, b3⟩, ⟨a2, b2⟩, ⟨a1, b1⟩⟩
