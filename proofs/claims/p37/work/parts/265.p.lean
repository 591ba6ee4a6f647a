/-- the new object, whole -/
theorem Rel_new : Rel mu0 nu_27 := by
  refine ⟨NR_new, ⟨⟨0, by omega, ?_, ?_⟩, ⟨0, by omega, ?_, ?_⟩, ?_, ?_, ?_⟩, ?_, ?_, ?_, ⟨0, by omega, ?_⟩, ⟨0, by omega, ?_⟩, ?_, ?_⟩
  · decide +kernel
  · decide +kernel
  · decide +kernel
  · decide +kernel
  · decide +kernel
  · have h : ∀ j, j < 60 → nu_27 1 (303 + j) = nI 0 ∧ mu0 2 j = nI 0 := by decide +kernel
    exact fun j hj => ⟨0, by omega, (h j hj).1, by rw [if_pos (by omega)]; exact (h j hj).2⟩
  · decide +kernel
  · decide +kernel
  · have h : mu0 0 9 = 0 := by decide +kernel
    exact fun hz => absurd h hz
  · have h : ∀ i, i < 4 → mu0 82 i = nu_27 10 i ∧ mu0 82 i = 0 ∧ mu0 83 i = nI 0 ∧ nu_27 11 i = nI 0 ∧ ∀ j, j < 24 → mu0 (78 + i) j = nu_27 12 (24 * i + j) := by decide +kernel
    intro i hi
    obtain ⟨a, b, c, d, e⟩ := h i hi
    exact ⟨a, Or.inl b, ⟨0, by omega, c, d⟩, e⟩
  · decide +kernel
  · decide +kernel
  · decide +kernel
  · decide +kernel
theorem new_body : mu0 74 3 = 0 ∧ nu_27 0 14 = 0 ∧ mu0 74 3 = nu_27 0 14 := by decide +kernel
theorem new_errs : ∀ k, k < 7 → mu0 84 k = nu_27 4 k := by decide +kernel
