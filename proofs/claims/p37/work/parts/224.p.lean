/-- the new object -/
theorem RR_new : RR 0 (sub PN mu0) nu_27 := by
  refine ⟨?_, ?_, ?_, ?_, ?_, ?_, ?_, ?_, ?_, ?_, ?_, ?_, ?_, ?_, ?_, ?_, ?_⟩
  · decide +kernel
  · decide +kernel
  · decide +kernel
  · decide +kernel
  · decide +kernel
  · decide +kernel
  · decide +kernel
  · decide +kernel
  · have h : ∀ k, k < 9 → sub PN mu0 1 k = nI 0 := by decide +kernel
    exact fun k hk => ⟨0, by omega, h k hk⟩
  · have h : ∀ k, k < 9 → sub PN mu0 2 k = nI 0 := by decide +kernel
    exact fun k hk => ⟨0, by omega, h k hk⟩
  · have h : ∀ k, k < 9 → sub PN mu0 3 k = nI k := by decide +kernel
    exact fun k hk => ⟨k, hk, h k hk⟩
  · have h : ∀ k, k < 9 → sub PN mu0 3 k = nI k := by decide +kernel
    exact fun k hk => ⟨k, hk, h k hk⟩
  · have h : ∀ k, k < 9 → sub PN mu0 4 k = nI 60 := by decide +kernel
    exact fun k hk => ⟨60, by omega, h k hk⟩
  · have h : ∀ k, k < 9 → sub PN mu0 5 k = -1 := by decide +kernel
    exact fun k hk => Or.inl (h k hk)
  · exact ⟨1, by omega, by decide +kernel⟩
  · exact ⟨0, by omega, by decide +kernel, by decide +kernel, fun _ => 0, rfl, fun j hj => by omega⟩
  · exact ⟨0, by omega, by decide +kernel, by decide +kernel, fun _ => 0, rfl, fun j hj => by omega⟩
theorem NR_new : NR mu0 nu_27 := by
  refine ⟨⟨0, by omega, RR_new⟩, ?_⟩
  have h : ∀ k, k < 9 → ¬ sub PN mu0 4 k = 0 := by decide +kernel
  exact fun k hk _ => h k hk
