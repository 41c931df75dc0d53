/-! PURE: a loop that counts up -/
theorem qlp {S R : Type} (F : Nat → Nat → S → Option R) (N : Nat) (P : Nat → S → Prop) (fin : S → R)
    (hstop : ∀ f s, P N s → F (f + 1) N s = some (fin s))
    (hstep : ∀ f i s, i < N → P i s → ∃ s', F (f + 1) i s = F f (i + 1) s' ∧ P (i + 1) s') :
    ∀ (n i : Nat) (s : S) (fuel : Nat), N - i ≤ n → i ≤ N → n < fuel → P i s → ∃ s', F fuel i s = some (fin s') ∧ P N s' := by
  intro n
  induction n with
  | zero =>
    intro i s fuel h1 h2 h3 hp
    obtain ⟨f, rfl⟩ : ∃ f, fuel = f + 1 := ⟨fuel - 1, by omega⟩
    have : i = N := by omega
    subst this
    exact ⟨s, hstop f s hp, hp⟩
  | succ n ih =>
    intro i s fuel h1 h2 h3 hp
    obtain ⟨f, rfl⟩ : ∃ f, fuel = f + 1 := ⟨fuel - 1, by omega⟩
    by_cases hi : i = N
    · subst hi
      exact ⟨s, hstop f s hp, hp⟩
    · obtain ⟨s', e, hp'⟩ := hstep f i s (by omega) hp
      rw [e]
      exact ih (i + 1) s' f (by omega) (by omega) (by omega) hp'
/-- the same from i0 on, with fuel 7000 -/
theorem qlp7 {S R : Type} (F : Nat → Nat → S → Option R) (N i0 : Nat) (s0 : S) (P : Nat → S → Prop) (fin : S → R) (hN : N < 7000) (h0 : i0 ≤ N) (hP : P i0 s0)
    (hstop : ∀ f s, P N s → F (f + 1) N s = some (fin s))
    (hstep : ∀ f i s, i < N → P i s → ∃ s', F (f + 1) i s = F f (i + 1) s' ∧ P (i + 1) s') : ∃ s', F 7000 i0 s0 = some (fin s') ∧ P N s' :=
  qlp F N P fin hstop hstep N i0 s0 7000 (by omega) h0 hN hP
/-- the state as a function of the count -/
theorem qlp7g {S R : Type} (F : Nat → Nat → S → Option R) (N i0 : Nat) (G : Nat → S) (fin : S → R) (hN : N < 7000) (h0 : i0 ≤ N)
    (hstop : ∀ f, F (f + 1) N (G N) = some (fin (G N)))
    (hstep : ∀ f i, i0 ≤ i → i < N → F (f + 1) i (G i) = F f (i + 1) (G (i + 1))) : F 7000 i0 (G i0) = some (fin (G N)) := by
  obtain ⟨s', e, h⟩ := qlp7 F N i0 (G i0) (fun i s => i0 ≤ i ∧ s = G i) fin hN h0 ⟨Nat.le_refl _, rfl⟩ (fun f s h => by rw [h.2]; exact hstop f) (fun f i s hi h => ⟨G (i + 1), by rw [h.2]; exact hstep f i h.1 hi, by omega, rfl⟩)
  rw [e, h.2]
