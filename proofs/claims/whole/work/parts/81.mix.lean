/-! PURE: mix -/
def smC (k : Nat) : Nat := k / 169 + k / 13 % 13 + k % 13
def cw (n k : Nat) : Nat → Int32 := w4 (nI (k / 169)) (nI (k / 13 % 13)) (nI (k % 13)) (nI (n - k / 169 - k / 13 % 13 - k % 13))
def updM (o : Option (Int32 × Nat)) (w : Int32) (k : Nat) : Option (Int32 × Nat) :=
  match o with
  | none => some (w, k)
  | some (l, j) => if l ≤ w then some (l, j) else some (w, k)
def mg (tk : Nat → Int32) (n : Nat) : Nat → Option (Int32 × Nat)
  | 0 => none
  | k + 1 => if n < smC k then mg tk n k else updM (mg tk n k) (chs tk (cw n k) 4).1 k
theorem smC_e {a r : Nat} (h : r < 169) : smC (169 * a + r) = a + r / 13 + r % 13 := by
  have e1 : (169 * a + r) / 169 = a := by omega
  have e2 : (169 * a + r) / 13 = 13 * a + r / 13 := by omega
  have e3 : (13 * a + r / 13) % 13 = r / 13 := by omega
  have e4 : (169 * a + r) % 13 = r % 13 := by omega
  unfold smC
  rw [e1, e2, e3, e4]
theorem mg_skip {tk : Nat → Int32} {n k : Nat} : ∀ d, (∀ j, k ≤ j → j < k + d → n < smC j) → mg tk n (k + d) = mg tk n k := by
  intro d
  induction d with
  | zero => intro _; rfl
  | succ d ih =>
    intro h
    have pe : mg tk n (k + d + 1) = if n < smC (k + d) then mg tk n (k + d) else updM (mg tk n (k + d)) (chs tk (cw n (k + d)) 4).1 (k + d) := rfl
    rw [show k + (d + 1) = k + d + 1 from rfl, pe, if_pos (h (k + d) (by omega) (by omega))]
    exact ih (fun j h1 h2 => h j h1 (by omega))
theorem cw_in {n k : Nat} (hn : n ≤ 12) (hk : smC k ≤ n) : ∀ q, q < 4 → 0 ≤ (cw n k q).toInt ∧ (cw n k q).toInt ≤ 20 := by
  unfold smC at hk
  intro q hq
  match q, hq with
  | 0, _ => show 0 ≤ (nI (k / 169)).toInt ∧ (nI (k / 169)).toInt ≤ 20; rw [r_nI (by omega)]; omega
  | 1, _ => show 0 ≤ (nI (k / 13 % 13)).toInt ∧ (nI (k / 13 % 13)).toInt ≤ 20; rw [r_nI (by omega)]; omega
  | 2, _ => show 0 ≤ (nI (k % 13)).toInt ∧ (nI (k % 13)).toInt ≤ 20; rw [r_nI (by omega)]; omega
  | 3, _ => show 0 ≤ (nI (n - k / 169 - k / 13 % 13 - k % 13)).toInt ∧ (nI (n - k / 169 - k / 13 % 13 - k % 13)).toInt ≤ 20; rw [r_nI (by omega)]; omega
/-- the weights of a mix: none, or some of them -/
theorem cw_S {n k : Nat} (hn : n ≤ 12) (hk : smC k ≤ n) (b : Int32) : (wS (cw n k) b 4).toInt ≤ n := by
  unfold smC at hk
  have st : ∀ (x : Int32) (y : Int32) (c : Nat) (d : Nat) (P : Prop) [Decidable P], (0 ≤ x.toInt ∧ x.toInt ≤ c) → y = nI d → c ≤ 100 → d ≤ 100 → 0 ≤ (x + (if P then y else 0)).toInt ∧ (x + (if P then y else 0)).toInt ≤ ((c + d : Nat) : Int) := by
    intro x y c d P _ h1 h2 h3 h4
    subst h2
    have e := r_nI (n := d) (by omega)
    split
    · rw [Int32.toInt_add, Int.bmod_eq_of_le (by omega) (by omega)]
      omega
    · rw [Int32.add_zero]
      omega
  have s1 := st 0 (cw n k 0) 0 (k / 169) (bt b 0 = true) (by decide) rfl (by omega) (by omega)
  have s2 := st _ (cw n k 1) _ (k / 13 % 13) (bt b 1 = true) s1 rfl (by omega) (by omega)
  have s3 := st _ (cw n k 2) _ (k % 13) (bt b 2 = true) s2 rfl (by omega) (by omega)
  have s4 := st _ (cw n k 3) _ (n - k / 169 - k / 13 % 13 - k % 13) (bt b 3 = true) s3 rfl (by omega) (by omega)
  have s5 : (wS (cw n k) b 4).toInt ≤ _ := s4.2
  omega
theorem cw_m {tk : Nat → Int32} {n k : Nat} (hn : n ≤ 12) (hk : smC k ≤ n) : ∀ i, (chs tk (cw n k) i).1.toInt ≤ n := by
  intro i
  induction i with
  | zero => show (0 : Int32).toInt ≤ _; rw [show (0 : Int32).toInt = 0 from rfl]; omega
  | succ i ih =>
    have h4 := cw_S hn hk (tk i)
    unfold chs
    split
    · exact ih
    · split
      · exact h4
      · split
        · exact ih
        · exact h4
/-- the class's state against what was found -/
def R9 (n : Nat) (o : Option (Int32 × Nat)) (s : q_Mm) : Prop :=
  match o with
  | none => s.1 23 10 = nI n + 1
  | some (l, j) => s.1 23 10 = l ∧ (0 ≤ l.toInt ∧ l.toInt ≤ 80) ∧ ∀ i, i < 4 → s.1 27 i = cw n j i
theorem consider9 {tk : Nat → Int32} {n k : Nat} {o : Option (Int32 × Nat)} {s : q_Mm} (hn : n ≤ 12) (hk : smC k ≤ n) (hR : R9 n o s) (ht : ∀ i, i < 4 → s.1 26 i = tk i) : ∃ s', f_X3_considerMix (nI (k / 169)) (nI (k / 13 % 13)) (nI (k % 13)) (nI (n - k / 169 - k / 13 % 13 - k % 13)) s = some s' ∧ R9 n (updM o (chs tk (cw n k) 4).1 k) s' ∧ ∀ i, i < 4 → s'.1 26 i = tk i := by
  obtain ⟨s1, a1, a2, a3, a4⟩ := choose9 (m := s) (cw n k)
  have hc := chs_in (tk := tk) (cw_in hn hk) 4
  have he : chs (s.1 26) (cw n k) 4 = chs tk (cw n k) 4 := chs_congr ht (fun _ _ => rfl) 4 (by omega)
  rw [he] at a2 a3
  have hcm := cw_m (tk := tk) hn hk 4
  generalize (chs tk (cw n k) 4).1 = w at hc a2 hcm
  have hw : ∀ i, i < 4 → (q_wi (q_wi (q_wi (q_wi (q_wi s1 23 10 w) 27 ((0 : Int32).toNatClampNeg) (nI (k / 169))) 27 ((1 : Int32).toNatClampNeg) (nI (k / 13 % 13))) 27 ((2 : Int32).toNatClampNeg) (nI (k % 13))) 27 ((3 : Int32).toNatClampNeg) (nI (n - k / 169 - k / 13 % 13 - k % 13))).1 27 i = cw n k i := by
    intro i hi
    match i, hi with
    | 0, _ => rfl
    | 1, _ => rfl
    | 2, _ => rfl
    | 3, _ => rfl
  have hun : ∀ (r : Int32), s1.1 23 10 = r → f_X3_considerMix (nI (k / 169)) (nI (k / 13 % 13)) (nI (k % 13)) (nI (n - k / 169 - k / 13 % 13 - k % 13)) s = if r ≤ w then some s1 else some (q_wi (q_wi (q_wi (q_wi (q_wi s1 23 10 w) 27 ((0 : Int32).toNatClampNeg) (nI (k / 169))) 27 ((1 : Int32).toNatClampNeg) (nI (k / 13 % 13))) 27 ((2 : Int32).toNatClampNeg) (nI (k % 13))) 27 ((3 : Int32).toNatClampNeg) (nI (n - k / 169 - k / 13 % 13 - k % 13))) := by
    intro r hr
    unfold f_X3_considerMix
    rw [show f_X3_choose (nI (k / 169)) (nI (k / 13 % 13)) (nI (k % 13)) (nI (n - k / 169 - k / 13 % 13 - k % 13)) s = some s1 from a1, Option.bind_some, a2, hr]
  have h26 : ∀ i, i < 4 → (q_wi (q_wi (q_wi (q_wi (q_wi s1 23 10 w) 27 ((0 : Int32).toNatClampNeg) (nI (k / 169))) 27 ((1 : Int32).toNatClampNeg) (nI (k / 13 % 13))) 27 ((2 : Int32).toNatClampNeg) (nI (k % 13))) 27 ((3 : Int32).toNatClampNeg) (nI (n - k / 169 - k / 13 % 13 - k % 13))).1 26 i = tk i := fun i hi => by
    rw [r_row (by decide), r_row (by decide), r_row (by decide), r_row (by decide), r_row (by decide), a4 26 i (by omega)]
    exact ht i hi
  have hM : (q_wi (q_wi (q_wi (q_wi (q_wi s1 23 10 w) 27 ((0 : Int32).toNatClampNeg) (nI (k / 169))) 27 ((1 : Int32).toNatClampNeg) (nI (k / 13 % 13))) 27 ((2 : Int32).toNatClampNeg) (nI (k % 13))) 27 ((3 : Int32).toNatClampNeg) (nI (n - k / 169 - k / 13 % 13 - k % 13))).1 23 10 = w := by
    rw [r_row (by decide), r_row (by decide), r_row (by decide), r_row (by decide), r_wi, if_pos ⟨rfl, rfl⟩]
  match o, hR with
  | none, hR =>
    rw [hun (nI n + 1) (by rw [a4 23 10 (by omega)]; exact hR), if_neg (show ¬ nI n + 1 ≤ w by rw [nI_1, r_le, r_nI (by omega)]; omega)]
    exact ⟨_, rfl, ⟨hM, hc, hw⟩, h26⟩
  | some (l, j), hR =>
    obtain ⟨e1, e2, e3⟩ := hR
    rw [hun l (by rw [a4 23 10 (by omega)]; exact e1)]
    unfold updM
    dsimp only
    split
    · exact ⟨_, rfl, ⟨by rw [a4 23 10 (by omega)]; exact e1, e2, fun i hi => by rw [a4 27 i (by omega)]; exact e3 i hi⟩, fun i hi => by rw [a4 26 i (by omega)]; exact ht i hi⟩
    · exact ⟨_, rfl, ⟨hM, hc, hw⟩, h26⟩
theorem nI_sub' {a b : Nat} (h : b ≤ a) (ha : a < 2 ^ 30) : nI a - nI b = nI (a - b) := by
  rw [r_eq, pk_sub_toInt ha (by omega), r_nI (by omega)]
  omega
def K9 (tk : Nat → Int32) (n : Nat) (k : Nat) (s : q_Mm) : Prop := R9 n (mg tk n k) s ∧ ∀ i, i < 4 → s.1 26 i = tk i
theorem mix9_c {tk : Nat → Int32} {n a b : Nat} (hn : n ≤ 12) (hab : a + b ≤ n) {s : q_Mm} (h : K9 tk n (169 * a + 13 * b) s) : ∃ s', l_X3_findMix_26 7000 (nI n) (nI a) (nI b) 0 s = some s' ∧ K9 tk n (169 * a + 13 * (b + 1)) s' := by
  obtain ⟨s', e, h'⟩ := qlp7 (fun f i (s : q_Mm) => l_X3_findMix_26 f (nI n) (nI a) (nI b) (nI i) s) (n - a - b + 1) 0 s (fun i s => K9 tk n (169 * a + 13 * b + i) s) (fun s => s) (by omega) (by omega) h
    (fun f s _ => by
      show l_X3_findMix_26 (f + 1) _ _ _ _ _ = _
      unfold l_X3_findMix_26
      rw [nI_sub' (show a ≤ n by omega) (by omega), nI_sub' (show b ≤ n - a by omega) (by omega), if_pos (by rw [r_lt, r_nI (by omega), r_nI (by omega)]; omega)])
    (fun f i s hi hs => by
      obtain ⟨h1, h2⟩ := hs
      have d1 : (169 * a + 13 * b + i) / 169 = a := by omega
      have d0 : (169 * a + 13 * b + i) / 13 = 13 * a + b := by omega
      have d2 : (169 * a + 13 * b + i) / 13 % 13 = b := by rw [d0]; omega
      have d3 : (169 * a + 13 * b + i) % 13 = i := by omega
      have hsm : smC (169 * a + 13 * b + i) ≤ n := by unfold smC; rw [d1, d2, d3]; omega
      obtain ⟨s', e, k1, k2⟩ := consider9 hn hsm h1 h2
      rw [d1, d2, d3] at e
      refine ⟨s', ?_, ?_, k2⟩
      · show l_X3_findMix_26 (f + 1) _ _ _ _ _ = l_X3_findMix_26 f _ _ _ _ _
        conv => lhs; unfold l_X3_findMix_26
        rw [nI_sub' (show a ≤ n by omega) (by omega), nI_sub' (show b ≤ n - a by omega) (by omega), if_neg (by rw [r_lt, r_nI (by omega), r_nI (by omega)]; omega), nI_sub' (show i ≤ n - a - b by omega) (by omega), e, Option.bind_some, nI_1]
      · have pe : mg tk n (169 * a + 13 * b + i + 1) = if n < smC (169 * a + 13 * b + i) then mg tk n (169 * a + 13 * b + i) else updM (mg tk n (169 * a + 13 * b + i)) (chs tk (cw n (169 * a + 13 * b + i)) 4).1 (169 * a + 13 * b + i) := rfl
        rw [show 169 * a + 13 * b + (i + 1) = 169 * a + 13 * b + i + 1 from rfl, pe, if_neg (by omega)]
        exact k1)
  refine ⟨s', e, ?_, h'.2⟩
  have sk := mg_skip (tk := tk) (n := n) (k := 169 * a + 13 * b + (n - a - b + 1)) (12 - (n - a - b)) (fun j h1 h2 => by rw [show j = 169 * a + (j - 169 * a) by omega, smC_e (by omega)]; omega)
  rw [show 169 * a + 13 * (b + 1) = 169 * a + 13 * b + (n - a - b + 1) + (12 - (n - a - b)) by omega, sk]
  exact h'.1
theorem mix9_b {tk : Nat → Int32} {n a : Nat} (hn : n ≤ 12) (ha : a ≤ n) {s : q_Mm} (h : K9 tk n (169 * a) s) : ∃ s', l_X3_findMix_16 7000 (nI n) (nI a) 0 s = some s' ∧ K9 tk n (169 * (a + 1)) s' := by
  obtain ⟨s', e, h'⟩ := qlp7 (fun f i (s : q_Mm) => l_X3_findMix_16 f (nI n) (nI a) (nI i) s) (n - a + 1) 0 s (fun i s => K9 tk n (169 * a + 13 * i) s) (fun s => s) (by omega) (by omega) h
    (fun f s _ => by
      show l_X3_findMix_16 (f + 1) _ _ _ _ = _
      unfold l_X3_findMix_16
      rw [nI_sub' (show a ≤ n by omega) (by omega), if_pos (by rw [r_lt, r_nI (by omega), r_nI (by omega)]; omega)])
    (fun f i s hi hs => by
      obtain ⟨s', e, k1⟩ := mix9_c hn (show a + i ≤ n by omega) hs
      refine ⟨s', ?_, k1⟩
      show l_X3_findMix_16 (f + 1) _ _ _ _ = l_X3_findMix_16 f _ _ _ _
      conv => lhs; unfold l_X3_findMix_16
      rw [nI_sub' (show a ≤ n by omega) (by omega), if_neg (by rw [r_lt, r_nI (by omega), r_nI (by omega)]; omega), e, Option.bind_some, nI_1])
  refine ⟨s', e, ?_, h'.2⟩
  have sk := mg_skip (tk := tk) (n := n) (k := 169 * a + 13 * (n - a + 1)) (13 * (12 - (n - a))) (fun j h1 h2 => by rw [show j = 169 * a + (j - 169 * a) by omega, smC_e (by omega)]; omega)
  rw [show 169 * (a + 1) = 169 * a + 13 * (n - a + 1) + 13 * (12 - (n - a)) by omega, sk]
  exact h'.1
theorem mix9 {tk : Nat → Int32} {n : Nat} (hn : n ≤ 12) {s : q_Mm} (h : ∀ i, i < 4 → s.1 26 i = tk i) : ∃ s', f_X3_findMix (nI n) s = some s' ∧ R9 n (mg tk n 2197) s' := by
  obtain ⟨s', e, h'⟩ := qlp7 (fun f i (s : q_Mm) => l_X3_findMix_9 f (nI n) (nI i) s) (n + 1) 0 (q_wi s 23 10 (nI n + 1)) (fun i s => K9 tk n (169 * i) s) (fun s => s) (by omega) (by omega) ⟨by
      show (q_wi s 23 10 (nI n + 1)).1 23 10 = nI n + 1
      rw [r_wi, if_pos ⟨rfl, rfl⟩], fun i hi => by rw [r_row (by decide)]; exact h i hi⟩
    (fun f s _ => by
      show l_X3_findMix_9 (f + 1) _ _ _ = _
      unfold l_X3_findMix_9
      rw [if_pos (by rw [r_lt, r_nI (by omega), r_nI (by omega)]; omega)])
    (fun f i s hi hs => by
      obtain ⟨s', e, k1⟩ := mix9_b hn (show i ≤ n by omega) hs
      refine ⟨s', ?_, k1⟩
      show l_X3_findMix_9 (f + 1) _ _ _ = l_X3_findMix_9 f _ _ _
      conv => lhs; unfold l_X3_findMix_9
      rw [if_neg (by rw [r_lt, r_nI (by omega), r_nI (by omega)]; omega), e, Option.bind_some, nI_1])
  refine ⟨s', ?_, ?_⟩
  · unfold f_X3_findMix
    rw [show l_X3_findMix_9 7000 (nI n) 0 (q_wi s 23 10 (nI n + 1)) = some s' from e]
    rfl
  · have sk := mg_skip (tk := tk) (n := n) (k := 169 * (n + 1)) (169 * (12 - n)) (fun j h1 h2 => by unfold smC; omega)
    rw [show 2197 = 169 * (n + 1) + 169 * (12 - n) by omega, sk]
    exact h'.1
def R10 (n : Nat) (o : Option (Int32 × Nat)) (y : Int32) (s : q_Mm) : Prop :=
  match o with
  | none => y = -1
  | some (l, j) => y = l ∧ (0 ≤ l.toInt ∧ l.toInt ≤ 80) ∧ ∀ i, i < 4 → s.1 76 i = cw n j i
theorem copy10 {s : q_Mm} (a b c d : Int32) : ∃ s', l_X10_mix_157 7000 a b c d 0 s = some s' ∧ (∀ i, i < 4 → s'.1 76 i = s.1 74 i) ∧ ∀ k, ¬ k = 76 → s'.1 k = s.1 k := by
  obtain ⟨s', e, h1, h2⟩ := qlp7 (fun f i (z : q_Mm) => l_X10_mix_157 f a b c d (nI i) z) 4 0 s (fun i z => (∀ j, j < i → z.1 76 j = s.1 74 j) ∧ ∀ k, ¬ k = 76 → z.1 k = s.1 k) (fun s => s) (by omega) (by omega) ⟨fun j hj => absurd hj (by omega), fun _ _ => rfl⟩
    (fun f s _ => by
      show l_X10_mix_157 (f + 1) _ _ _ _ _ _ = _
      unfold l_X10_mix_157
      rw [if_pos (by decide)])
    (fun f i z hi hz => by
      refine ⟨q_wi z 76 i (z.1 74 i), ?_, fun j hj => ?_, fun k hk => by rw [r_row hk, hz.2 k hk]⟩
      · show l_X10_mix_157 (f + 1) _ _ _ _ _ _ = l_X10_mix_157 f _ _ _ _ _ _
        conv => lhs; unfold l_X10_mix_157
        rw [if_neg (i4p hi), if_pos (r_in hi (by decide)), if_pos (r_in hi (by decide)), r_cl (by omega), nI_1]
      · by_cases hji : j = i
        · subst hji
          rw [r_wi, if_pos ⟨rfl, rfl⟩, hz.2 74 (by decide)]
        · rw [r_wi, if_neg (fun q => hji q.2)]
          exact hz.1 j (by omega))
  exact ⟨s', e, h1, h2⟩
def M4 (s : q_Mm) (a b c d : Int32) : q_Mm := q_wi (q_wi (q_wi (q_wi s 74 ((0 : Int32).toNatClampNeg) a) 74 ((1 : Int32).toNatClampNeg) b) 74 ((2 : Int32).toNatClampNeg) c) 74 ((3 : Int32).toNatClampNeg) d
theorem M4_2 {s : q_Mm} {a b c d : Int32} (k : Nat) (hk : ¬ k = 74) : (M4 s a b c d).1 k = s.1 k := lay4.2 k hk
theorem mix10_u {n k f : Nat} {y3 y4 : Int32} {s : q_Mm} (hk : k < 2197) : l_X10_mix_50 (f + 1) (nI n) y3 y4 (nI k) s =
    if nI n - nI (k / 169) - nI (k / 13 % 13) - nI (k % 13) < 0 then l_X10_mix_50 f (nI n) y3 y4 (nI (k + 1)) (M4 s (nI (k / 169)) (nI (k / 13 % 13)) (nI (k % 13)) (nI n - nI (k / 169) - nI (k / 13 % 13) - nI (k % 13)))
    else (f_X10_worstOf (M4 s (nI (k / 169)) (nI (k / 13 % 13)) (nI (k % 13)) (nI n - nI (k / 169) - nI (k / 13 % 13) - nI (k % 13)))).bind fun r3 =>
      if y4 < 0 then (l_X10_mix_157 7000 (nI n) y3 r3.1 (nI k) 0 r3.2).bind fun r7 => l_X10_mix_50 f (nI n) y3 r3.1 (nI (k + 1)) r7
      else if y4 ≤ r3.1 then l_X10_mix_50 f (nI n) y3 y4 (nI (k + 1)) r3.2
      else (l_X10_mix_157 7000 (nI n) y3 r3.1 (nI k) 0 r3.2).bind fun r9 => l_X10_mix_50 f (nI n) y3 r3.1 (nI (k + 1)) r9 := by
  have d1 : nI k / 169 = nI (k / 169) := pk_div (d := 169) (by omega) (by decide) (by decide)
  have d2 : nI k / 13 = nI (k / 13) := pk_div (d := 13) (by omega) (by decide) (by decide)
  have d3 : q_rm (nI (k / 13)) 13 = nI (k / 13 % 13) := pk_rem (d := 13) (by omega) (by decide) (by decide)
  have d4 : q_rm (nI k) 13 = nI (k % 13) := pk_rem (d := 13) (by omega) (by decide) (by decide)
  conv => lhs; unfold l_X10_mix_50
  rw [if_neg (show ¬ (2197 : Int32) ≤ nI k from nI_ge (b := 2197) hk (by decide)), d1, d2, d3, d4, nI_1]
  rfl
theorem mix10 {tk : Nat → Int32} {n : Nat} (hn : n ≤ 12) (y3 : Int32) {s : q_Mm} (h : ∀ i, i < 4 → s.1 75 i = tk i) : ∃ y s', l_X10_mix_50 7000 (nI n) y3 (-1) 0 s = some (y, s') ∧ R10 n (mg tk n 2197) y s' := by
  obtain ⟨⟨y, s'⟩, e, h1, h2⟩ := qlp7 (fun f i (s : Int32 × q_Mm) => l_X10_mix_50 f (nI n) y3 s.1 (nI i) s.2) 2197 0 (-1, s) (fun i s => R10 n (mg tk n i) s.1 s.2 ∧ ∀ j, j < 4 → s.2.1 75 j = tk j) (fun s => s) (by omega) (by omega) ⟨rfl, h⟩
    (fun f s _ => by
      show l_X10_mix_50 (f + 1) _ _ _ _ _ = _
      unfold l_X10_mix_50
      rw [if_pos (show (2197 : Int32) ≤ nI 2197 by decide)])
    (fun f k s hk hs => by
      obtain ⟨y, s⟩ := s
      obtain ⟨s1, s2⟩ := hs
      dsimp only at s1 s2
      show ∃ s', l_X10_mix_50 (f + 1) _ _ y _ s = l_X10_mix_50 f _ _ (Prod.fst s') _ (Prod.snd s') ∧ _
      rw [mix10_u hk]
      have pe : mg tk n (k + 1) = if n < smC k then mg tk n k else updM (mg tk n k) (chs tk (cw n k) 4).1 k := rfl
      have k1 : (nI n - nI (k / 169)).toInt = (n : Int) - (k / 169 : Nat) := pk_sub_toInt (by omega) (by omega)
      have k2 : (nI n - nI (k / 169) - nI (k / 13 % 13)).toInt = (n : Int) - (k / 169 : Nat) - (k / 13 % 13 : Nat) := by
        rw [sub_i] <;> rw [k1, r_nI (by omega)] <;> omega
      have k3 : (nI n - nI (k / 169) - nI (k / 13 % 13) - nI (k % 13)).toInt = (n : Int) - (k / 169 : Nat) - (k / 13 % 13 : Nat) - (k % 13 : Nat) := by
        rw [sub_i] <;> rw [k2, r_nI (by omega)] <;> omega
      have z0 : (0 : Int32).toInt = 0 := rfl
      by_cases hc : n < smC k
      · rw [pe, if_pos hc, if_pos (by rw [r_lt, k3, z0]; unfold smC at hc; omega)]
        refine ⟨(y, M4 s (nI (k / 169)) (nI (k / 13 % 13)) (nI (k % 13)) (nI n - nI (k / 169) - nI (k / 13 % 13) - nI (k % 13))), rfl, ?_, fun j hj => (congrFun (M4_2 75 (by decide)) j).trans (s2 j hj)⟩
        match hmg : mg tk n k, s1 with
        | none, s1 => exact s1
        | some (l, j), s1 =>
          obtain ⟨e1, e2, e3⟩ := s1
          exact ⟨e1, e2, fun i hi => (congrFun (M4_2 76 (by decide)) i).trans (e3 i hi)⟩
      · have hD : nI n - nI (k / 169) - nI (k / 13 % 13) - nI (k % 13) = nI (n - k / 169 - k / 13 % 13 - k % 13) := by
          unfold smC at hc
          rw [r_eq, k3, r_nI (by omega)]
          omega
        rw [pe, if_neg hc, if_neg (by rw [r_lt, k3, z0]; unfold smC at hc; omega), hD]
        obtain ⟨m', f1, f2, f3⟩ := worstOf10 (m := M4 s (nI (k / 169)) (nI (k / 13 % 13)) (nI (k % 13)) (nI (n - k / 169 - k / 13 % 13 - k % 13))) (tk := tk) (w := cw n k) (fun i hi => by unfold M4; rw [lay4.2 75 (by decide)]; exact s2 i hi) lay4.1
        have hin := chs_in (tk := tk) (cw_in hn (show smC k ≤ n by omega)) 4
        rw [f1, Option.bind_some]
        dsimp only
        generalize (chs tk (cw n k) 4).1 = w at hin ⊢
        have m75 : ∀ j, j < 4 → m'.1 75 j = tk j := fun j hj => by
          rw [f3 75 j (by omega)]
          unfold M4
          rw [lay4.2 75 (by decide)]
          exact s2 j hj
        obtain ⟨c, c1, c2, c3⟩ := copy10 (s := m') (nI n) y3 w (nI k)
        have cN : R10 n (some (w, k)) w c ∧ ∀ j, j < 4 → c.1 75 j = tk j := by
          refine ⟨⟨rfl, hin, fun i hi => ?_⟩, fun j hj => by rw [c3 75 (by decide)]; exact m75 j hj⟩
          rw [c2 i hi, f3 74 i (by omega)]
          exact lay4.1 i hi
        rw [c1, Option.bind_some]
        match hmg : mg tk n k, s1 with
        | none, s1 =>
          have s1' : y = -1 := s1
          subst s1'
          rw [if_pos (by decide)]
          exact ⟨(w, c), rfl, cN⟩
        | some (l, j), s1 =>
          obtain ⟨e1, e2, e3⟩ := s1
          subst e1
          rw [if_neg (by rw [r_lt, z0]; omega)]
          unfold updM
          dsimp only
          split
          · refine ⟨(y, m'), rfl, ⟨rfl, e2, fun i hi => ?_⟩, m75⟩
            rw [f3 76 i (by omega)]
            unfold M4
            rw [lay4.2 76 (by decide)]
            exact e3 i hi
          · exact ⟨(w, c), rfl, cN⟩)
  exact ⟨y, s', e, h1⟩
theorem mg_some {tk : Nat → Int32} {n : Nat} : ∀ k, ∃ l j, mg tk n (k + 1) = some (l, j) := by
  intro k
  induction k with
  | zero =>
    refine ⟨(chs tk (cw n 0) 4).1, 0, ?_⟩
    show (if n < smC 0 then none else updM none (chs tk (cw n 0) 4).1 0) = _
    rw [if_neg (by unfold smC; omega)]
    rfl
  | succ k ih =>
    obtain ⟨l, j, e⟩ := ih
    have pe : mg tk n (k + 1 + 1) = if n < smC (k + 1) then mg tk n (k + 1) else updM (mg tk n (k + 1)) (chs tk (cw n (k + 1)) 4).1 (k + 1) := rfl
    rw [pe, e]
    split
    · exact ⟨l, j, rfl⟩
    · unfold updM
      dsimp only
      split
      · exact ⟨_, _, rfl⟩
      · exact ⟨_, _, rfl⟩
theorem tkn_f {I I' : Nat → Nat → Int32} {t p : Nat} (h20 : I' 58 20 = I 58 20) (h21 : I' 58 21 = I 58 21) (h22 : I' 58 22 = I 58 22) (h23 : I' 58 23 = I 58 23) (h24 : I' 58 24 = I 58 24) (h59 : I' 59 = I 59) (h60 : I' 60 = I 60) (h61 : I' 61 = I 61) : tkn I' t p = tkn I t p := by
  have e : ∀ i, pX I' t i = pX I t i ∧ pY I' t i = pY I t i := fun i => by
    unfold pX pY gX gY cn
    rw [h20, h59, h60, h61]
    exact ⟨rfl, rfl⟩
  have g : ∀ i, gb I' t p i = gb I t p i := fun i => by
    induction i with
    | zero => rfl
    | succ i ih =>
      unfold gb
      rw [ih, (e i).1, (e i).2, (e p).1, (e p).2, h24]
  unfold tkn cb
  rw [g, (e p).1, (e p).2, h21, h22, h23]
theorem ok_mix : q_OK_mix Inv := by
  intro x1 x2 x3 m hI
  have a9 : ∀ (x : Int32) (m : q_Mm), f_X9_within x 0 600 m = 0 ↔ ¬ (0 ≤ x.toInt ∧ x.toInt ≤ 600) := fun x m => r_within
  have a10 : ∀ (x : Int32) (m : q_Mm), f_X10_in x.toInt64 0 600 m = 0 ↔ ¬ (0 ≤ x.toInt ∧ x.toInt ≤ 600) := fun x m => r_inn
  have n9 : ∀ (x : Int32) (m : q_Mm), f_X9_within x 1 12 m = 0 ↔ ¬ (1 ≤ x.toInt ∧ x.toInt ≤ 12) := fun x m => r_within
  have n10 : ∀ (x : Int32) (m : q_Mm), f_X10_in x.toInt64 1 12 m = 0 ↔ ¬ (1 ≤ x.toInt ∧ x.toInt ≤ 12) := fun x m => r_inn
  have c9 : ∀ (x : Int32) (m : q_Mm), f_X9_within x 0 4 m = 0 ↔ ¬ (0 ≤ x.toInt ∧ x.toInt ≤ 4) := fun x m => r_within
  have c10 : ∀ (x : Int32) (m : q_Mm), f_X10_in x.toInt64 0 4 m = 0 ↔ ¬ (0 ≤ x.toInt ∧ x.toInt ≤ 4) := fun x m => r_inn
  by_cases g1 : 0 ≤ x1.toInt ∧ x1.toInt ≤ 600
  case neg =>
    refine ⟨-2, m, m, ?_, ?_, hI⟩
    · unfold f_X9_mix; rw [if_pos ((a9 _ _).mpr g1)]
    · unfold f_X10_mix; rw [if_pos ((a10 _ _).mpr g1)]
  by_cases g2 : 1 ≤ x2.toInt ∧ x2.toInt ≤ 12
  case neg =>
    refine ⟨-2, m, m, ?_, ?_, hI⟩
    · unfold f_X9_mix; rw [if_neg (fun z => (a9 _ _).mp z g1), if_pos ((n9 _ _).mpr g2)]
    · unfold f_X10_mix; rw [if_neg (fun z => (a10 _ _).mp z g1), if_pos ((n10 _ _).mpr g2)]
  by_cases g3 : 0 ≤ x3.toInt ∧ x3.toInt ≤ 4
  case neg =>
    refine ⟨-2, m, m, ?_, ?_, hI⟩
    · unfold f_X9_mix; rw [if_neg (fun z => (a9 _ _).mp z g1), if_neg (fun z => (n9 _ _).mp z g2), if_pos ((c9 _ _).mpr g3)]
    · unfold f_X10_mix; rw [if_neg (fun z => (a10 _ _).mp z g1), if_neg (fun z => (n10 _ _).mp z g2), if_pos ((c10 _ _).mpr g3)]
  obtain ⟨t, ht, rfl⟩ := r_of g1.1 (n := 601) (by omega) (by decide)
  obtain ⟨n, hn, rfl⟩ := r_of (x := x2) (by omega) (n := 13) (by omega) (by decide)
  obtain ⟨q, hq, rfl⟩ := r_of g3.1 (n := 5) (by omega) (by decide)
  obtain ⟨m1, b1, b2, b3⟩ := waitAt9 hI (t := t) (by omega)
  obtain ⟨m2, d1, d2⟩ := mix9 (tk := tkn m.1 t) (n := n) (by omega) b3
  obtain ⟨l, j, el⟩ := mg_some (tk := tkn m.1 t) (n := n) 2196
  rw [el] at d2
  obtain ⟨d3, _, d4⟩ := d2
  have q4 : ∀ {q : Nat}, q < 5 → ¬ nI q = 4 → q < 4 := fun {q} h1 h2 => by
    rcases Nat.lt_or_ge q 4 with z | z
    · exact z
    · exact absurd (show nI q = 4 by rw [show q = 4 by omega]; rfl) h2
  have u9 : f_X9_mix (nI t) (nI n) (nI q) m = some (if nI q = 4 then l else cw n j q, m2) := by
    unfold f_X9_mix
    rw [if_neg (fun z => (a9 _ _).mp z g1), if_neg (fun z => (n9 _ _).mp z g2), if_neg (fun z => (c9 _ _).mp z g3), b1, Option.bind_some, d1, Option.bind_some, d3]
    by_cases z : nI q = 4
    · rw [if_pos z, if_pos z]
    · have := q4 hq z
      rw [if_neg z, if_neg z, if_pos (r_in this (by decide)), r_cl (by omega), d4 q this]
  have hI2 : Inv m2 := Inv_s (s_X9_mix u9) hI
  have z := s_X9_mix u9
  obtain ⟨m3, f1, f2, f3⟩ := layCaught10 hI2 (t := t) (by omega)
  obtain ⟨y, m4, h1, h2⟩ := mix10 (tk := tkn m.1 t) (n := n) (by omega) (nI q) (s := m3) (fun i hi => by rw [f3 i hi, tkn_f (z 58 20 rfl) (z 58 21 rfl) (z 58 22 rfl) (z 58 23 rfl) (z 58 24 rfl) (row_of z 59 (fun _ => rfl)) (row_of z 60 (fun _ => rfl)) (row_of z 61 (fun _ => rfl))])
  rw [el] at h2
  obtain ⟨h3, _, h4⟩ := h2
  have u10 : f_X10_mix (nI t) (nI n) (nI q) m2 = some (if nI q = 4 then l else cw n j q, m4) := by
    unfold f_X10_mix
    rw [if_neg (fun z => (a10 _ _).mp z g1), if_neg (fun z => (n10 _ _).mp z g2), if_neg (fun z => (c10 _ _).mp z g3), f1, Option.bind_some, h1, Option.bind_some]
    dsimp only
    rw [h3]
    by_cases z : nI q = 4
    · rw [if_pos z, if_pos z]
    · have := q4 hq z
      rw [if_neg z, if_neg z, if_pos (r_in this (by decide)), r_cl (by omega), h4 q this]
  exact ⟨_, _, _, u9, u10, Inv_s (s_X10_mix u10) hI2⟩
