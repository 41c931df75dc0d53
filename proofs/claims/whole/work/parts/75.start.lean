/-! PURE: Inv behind the constructors -/
theorem i0_P : ∀ p, p < 4 → q_m1.1 (46 + 3 * p) 2 = 0 ∧ q_m1.1 61 p = 0 := by decide +kernel
theorem i0_H : ∀ s, s < 9 → ∀ h, h < 10 → q_m1.1 (5 + 2 * s + 1) h = 0 := by decide +kernel
theorem i0_G : ∀ h, h < 10 → q_m1.1 43 h = 0 := by decide +kernel
theorem i0_D : ∀ i, i < 144 → q_m1.1 33 i = 0 ∧ q_m1.1 81 i = 0 := by decide +kernel
theorem i0_1 : q_m1.1 0 1 = 0 ∧ q_m1.1 58 3 = 0 ∧ q_m1.1 2 0 = 0 ∧ q_m1.1 2 1 = 0 ∧ q_m1.1 58 16 = 0 ∧ q_m1.1 58 17 = 0 ∧ q_m1.1 3 1 = 0 ∧ q_m1.1 58 11 = 0 ∧ q_m1.1 3 2 = 0 ∧ q_m1.1 58 15 = 0 := by decide +kernel
theorem i0_2 : q_m1.1 0 4 = 10 ∧ q_m1.1 58 20 = 10 ∧ q_m1.1 23 0 = 300000 ∧ q_m1.1 58 21 = 300000 ∧ q_m1.1 23 1 = 0 ∧ q_m1.1 58 22 = 0 ∧ q_m1.1 23 2 = 5 ∧ q_m1.1 58 23 = 5 ∧ q_m1.1 23 3 = 20000 ∧ q_m1.1 58 24 = 20000 := by decide +kernel
theorem i0_3 : q_m1.1 28 3 = 0 ∧ q_m1.1 58 34 = 0 ∧ q_m1.1 38 3 = 0 ∧ q_m1.1 58 47 = 0 ∧ q_m1.1 34 0 = 0 ∧ q_m1.1 36 0 = 0 ∧ q_m1.1 84 0 = 0 ∧ q_m1.1 84 1 = 0 := by decide +kernel
theorem q_inv0 : Inv q_m1 := by
  obtain ⟨a1, a2, a3, a4, a5, a6, a7, a8, a9, a10⟩ := i0_1
  obtain ⟨b1, b2, b3, b4, b5, b6, b7, b8, b9, b10⟩ := i0_2
  obtain ⟨c1, c2, c3, c4, c5, c6, c7, c8⟩ := i0_3
  refine ⟨fun p hp => ⟨0, by omega, (i0_P p hp).1, (i0_P p hp).2, fun i hi => absurd hi (by omega), fun i j _ hj => absurd hj (by omega)⟩, ⟨0, by omega, a1, a2⟩, ?_, ⟨0, 0, by omega, by omega, a7, a8, a9, a10, fun i hi => absurd hi (by omega), fun i hi => absurd hi (by omega), fun s h hs hh => i0_H s hs h hh⟩, i0_G, ?_, ⟨0, by omega, c1, c2, fun i hi => absurd hi (by omega)⟩, ?_, ⟨0, by omega, c3, c4, fun i hi => absurd hi (by omega)⟩, Or.inl ⟨c5, c7⟩, Or.inl ⟨c6, c8⟩, fun h => by rw [c5] at h; exact absurd h (by decide)⟩
  · unfold IF
    rw [a3, a4, a5, a6]
    decide
  · unfold IL
    rw [b1, b2, b3, b4, b5, b6, b7, b8, b9, b10]
    decide
  · intro i hi
    rw [(i0_D i hi).1, (i0_D i hi).2]
    decide
