/-! PURE: which cells each part of Inv reads; what isn't read may change -/
def Sm (sup : Nat → Nat → Bool) (m m' : q_Mm) : Prop := ∀ k j, sup k j = true → m'.1 k j = m.1 k j
theorem Sm.rf {sup : Nat → Nat → Bool} {m : q_Mm} : Sm sup m m := fun _ _ _ => rfl
theorem Sm.tr {sup : Nat → Nat → Bool} {a b c : q_Mm} (h1 : Sm sup a b) (h2 : Sm sup b c) : Sm sup a c := fun k j h => (h2 k j h).trans (h1 k j h)
theorem Sm.wi {sup : Nat → Nat → Bool} {m m' : q_Mm} {a i : Nat} {x : Int32} (hs : sup a i = false) (h : Sm sup m m') : Sm sup m (q_wi m' a i x) := fun k j hk => by
  rw [r_wi]
  by_cases hc : k = a ∧ j = i
  · obtain ⟨rfl, rfl⟩ := hc
    rw [hs] at hk
    cases hk
  · rw [if_neg hc]
    exact h k j hk
theorem Sm.wl {sup : Nat → Nat → Bool} {m m' : q_Mm} {a i : Nat} {x : Int64} (h : Sm sup m m') : Sm sup m (q_wl m' a i x) := h
def sP : Nat → Nat → Bool := fun k _ => match k with
  | 46 => true | 47 => true | 48 => true | 49 => true | 50 => true | 51 => true | 52 => true | 53 => true | 54 => true | 55 => true | 56 => true | 57 => true
  | 59 => true | 60 => true | 61 => true | _ => false
def sS : Nat → Nat → Bool := fun k j => match k with | 0 => Nat.beq j 1 | 58 => Nat.beq j 3 | _ => false
def sF : Nat → Nat → Bool := fun k j => match k with | 2 => true | 58 => Nat.beq j 16 || Nat.beq j 17 | _ => false
def sH : Nat → Nat → Bool := fun k j => match k with
  | 3 => Nat.beq j 1 || Nat.beq j 2 | 58 => Nat.beq j 11 || Nat.beq j 15
  | 5 => true | 6 => true | 7 => true | 8 => true | 9 => true | 10 => true | 11 => true | 12 => true | 13 => true | 14 => true | 15 => true | 16 => true | 17 => true | 18 => true | 19 => true | 20 => true | 21 => true | 22 => true
  | 63 => true | 64 => true | 65 => true | 66 => true | 67 => true | 68 => true | 69 => true | _ => false
def sG : Nat → Nat → Bool := fun k _ => match k with | 43 => true | _ => false
def sL : Nat → Nat → Bool := fun k j => match k with
  | 0 => Nat.beq j 4 | 23 => Nat.ble j 3 | 58 => Nat.ble 20 j && Nat.ble j 24 | _ => false
def sO : Nat → Nat → Bool := fun k j => match k with
  | 28 => Nat.beq j 3 | 58 => Nat.beq j 34 | 29 => true | 30 => true | 31 => true | 77 => true | 78 => true | 79 => true | _ => false
def sD : Nat → Nat → Bool := fun k _ => match k with | 33 => true | 81 => true | _ => false
def sT : Nat → Nat → Bool := fun k j => match k with
  | 38 => Nat.beq j 3 | 58 => Nat.beq j 47 | 39 => true | 40 => true | 41 => true | 86 => true | 87 => true | 88 => true | _ => false
def sR : Nat → Nat → Bool := fun k j => match k with
  | 34 => true | 35 => true | 36 => true | 37 => true | 82 => true | 83 => true | 84 => true | 58 => Nat.beq j 40 || Nat.beq j 41 | _ => false
theorem row_of {sup : Nat → Nat → Bool} {m m' : q_Mm} (h : Sm sup m m') (k : Nat) (hk : ∀ j, sup k j = true) : m'.1 k = m.1 k := funext fun j => h k j (hk j)
theorem IP_s {m m' : q_Mm} (h : Sm sP m m') (hI : IP m) : IP m' := by
  intro p hp
  have e1 : m'.1 (46 + 3 * p) = m.1 (46 + 3 * p) ∧ m'.1 (46 + 3 * p + 1) = m.1 (46 + 3 * p + 1) ∧ m'.1 (46 + 3 * p + 2) = m.1 (46 + 3 * p + 2) := by
    match p, hp with
    | 0, _ => exact ⟨row_of h 46 (fun _ => rfl), row_of h 47 (fun _ => rfl), row_of h 48 (fun _ => rfl)⟩
    | 1, _ => exact ⟨row_of h 49 (fun _ => rfl), row_of h 50 (fun _ => rfl), row_of h 51 (fun _ => rfl)⟩
    | 2, _ => exact ⟨row_of h 52 (fun _ => rfl), row_of h 53 (fun _ => rfl), row_of h 54 (fun _ => rfl)⟩
    | 3, _ => exact ⟨row_of h 55 (fun _ => rfl), row_of h 56 (fun _ => rfl), row_of h 57 (fun _ => rfl)⟩
  rw [e1.1, e1.2.1, e1.2.2, row_of h 59 (fun _ => rfl), row_of h 60 (fun _ => rfl), row_of h 61 (fun _ => rfl)]
  exact hI p hp
theorem IS_s {m m' : q_Mm} (h : Sm sS m m') (hI : IS m) : IS m' := by
  unfold IS
  rw [h 0 1 rfl, h 58 3 rfl]
  exact hI
theorem IF_s {m m' : q_Mm} (h : Sm sF m m') (hI : IF m) : IF m' := by
  unfold IF
  rw [h 2 0 rfl, h 2 1 rfl, h 58 16 rfl, h 58 17 rfl]
  exact hI
theorem ship_rows {m m' : q_Mm} (h : Sm sH m m') : ∀ i, i < 9 → m'.1 (5 + 2 * i) = m.1 (5 + 2 * i) ∧ m'.1 (5 + 2 * i + 1) = m.1 (5 + 2 * i + 1) := by
  intro i hi
  match i, hi with
  | 0, _ => exact ⟨row_of h 5 (fun _ => rfl), row_of h 6 (fun _ => rfl)⟩
  | 1, _ => exact ⟨row_of h 7 (fun _ => rfl), row_of h 8 (fun _ => rfl)⟩
  | 2, _ => exact ⟨row_of h 9 (fun _ => rfl), row_of h 10 (fun _ => rfl)⟩
  | 3, _ => exact ⟨row_of h 11 (fun _ => rfl), row_of h 12 (fun _ => rfl)⟩
  | 4, _ => exact ⟨row_of h 13 (fun _ => rfl), row_of h 14 (fun _ => rfl)⟩
  | 5, _ => exact ⟨row_of h 15 (fun _ => rfl), row_of h 16 (fun _ => rfl)⟩
  | 6, _ => exact ⟨row_of h 17 (fun _ => rfl), row_of h 18 (fun _ => rfl)⟩
  | 7, _ => exact ⟨row_of h 19 (fun _ => rfl), row_of h 20 (fun _ => rfl)⟩
  | 8, _ => exact ⟨row_of h 21 (fun _ => rfl), row_of h 22 (fun _ => rfl)⟩
theorem IH_s {m m' : q_Mm} (h : Sm sH m m') (hI : IH m) : IH m' := by
  obtain ⟨c, k, h1, h2, h3, h4, h5, h6, h7, h8, h9⟩ := hI
  refine ⟨c, k, h1, h2, (h 3 1 rfl).trans h3, (h 58 11 rfl).trans h4, (h 3 2 rfl).trans h5, (h 58 15 rfl).trans h6, fun i hi => ?_, fun i hi => ?_, fun s hh hs hh2 => ?_⟩
  · rw [(ship_rows h i (by omega)).1, row_of h 63 (fun _ => rfl), row_of h 64 (fun _ => rfl), row_of h 65 (fun _ => rfl), row_of h 66 (fun _ => rfl)]
    exact h7 i hi
  · rw [row_of h 67 (fun _ => rfl), row_of h 68 (fun _ => rfl), row_of h 69 (fun _ => rfl)]
    exact h8 i hi
  · rw [(ship_rows h s hs).2, row_of h 67 (fun _ => rfl), row_of h 68 (fun _ => rfl), row_of h 69 (fun _ => rfl)]
    exact h9 s hh hs hh2
theorem IG_s {m m' : q_Mm} (h : Sm sG m m') (hI : IG m) : IG m' := by
  intro i hi
  rw [h 43 i rfl]
  exact hI i hi
theorem IL_s {m m' : q_Mm} (h : Sm sL m m') (hI : IL m) : IL m' := by
  unfold IL
  rw [h 0 4 rfl, h 23 0 rfl, h 23 1 rfl, h 23 2 rfl, h 23 3 rfl, h 58 20 rfl, h 58 21 rfl, h 58 22 rfl, h 58 23 rfl, h 58 24 rfl]
  exact hI
theorem IO_s {m m' : q_Mm} (h : Sm sO m m') (hI : IO m) : IO m' := by
  unfold IO
  rw [h 28 3 rfl, h 58 34 rfl, row_of h 29 (fun _ => rfl), row_of h 30 (fun _ => rfl), row_of h 31 (fun _ => rfl), row_of h 77 (fun _ => rfl), row_of h 78 (fun _ => rfl), row_of h 79 (fun _ => rfl)]
  exact hI
theorem ID_s {m m' : q_Mm} (h : Sm sD m m') (hI : ID m) : ID m' := by
  unfold ID
  rw [row_of h 33 (fun _ => rfl), row_of h 81 (fun _ => rfl)]
  exact hI
theorem IT_s {m m' : q_Mm} (h : Sm sT m m') (hI : IT m) : IT m' := by
  unfold IT
  rw [h 38 3 rfl, h 58 47 rfl, row_of h 39 (fun _ => rfl), row_of h 40 (fun _ => rfl), row_of h 41 (fun _ => rfl), row_of h 86 (fun _ => rfl), row_of h 87 (fun _ => rfl), row_of h 88 (fun _ => rfl)]
  exact hI
theorem IR_s {m m' : q_Mm} (h : Sm sR m m') (hI : IR m) : IR m' := by
  unfold IR IR1
  rw [row_of h 34 (fun _ => rfl), row_of h 35 (fun _ => rfl), row_of h 36 (fun _ => rfl), row_of h 37 (fun _ => rfl), row_of h 82 (fun _ => rfl), row_of h 83 (fun _ => rfl), row_of h 84 (fun _ => rfl), h 58 40 rfl, h 58 41 rfl]
  exact hI
/-- what Inv reads at all -/
def sA : Nat → Nat → Bool := fun k j => sP k j || (sS k j || (sF k j || (sH k j || (sG k j || (sL k j || (sO k j || (sD k j || (sT k j || sR k j))))))))
theorem Inv_s {m m' : q_Mm} (h : Sm sA m m') (hI : Inv m) : Inv m' := by
  obtain ⟨h1, h2, h3, h4, h5, h6, h7, h8, h9, h10⟩ := hI
  refine ⟨IP_s (fun k j hk => h k j ?_) h1, IS_s (fun k j hk => h k j ?_) h2, IF_s (fun k j hk => h k j ?_) h3, IH_s (fun k j hk => h k j ?_) h4, IG_s (fun k j hk => h k j ?_) h5, IL_s (fun k j hk => h k j ?_) h6, IO_s (fun k j hk => h k j ?_) h7, ID_s (fun k j hk => h k j ?_) h8, IT_s (fun k j hk => h k j ?_) h9, IR_s (fun k j hk => h k j ?_) h10⟩
  all_goals (simp only [sA, hk, Bool.true_or, Bool.or_true])
