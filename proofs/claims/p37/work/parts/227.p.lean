/-- calls on the new object alone -/
theorem new_restore : Sim (fun a b : Mem × Int32 => a.2 = b.2) (f_X11_restore mu0) (f_X12_restore nu_27) := by
  unfold f_X11_restore f_X12_restore
  rw [if_pos (show mu0 0 9 = 0 by decide +kernel), if_pos (show nu_27 0 3 = 0 by decide +kernel)]
  exact (errs_ok NR_new (c := 2) (by omega)).mono fun a b h => h.1
theorem new_told (x : Int32) : Sim (fun a b : Mem × Int32 => a.2 = b.2) (f_X11_told mu0 x) (f_X12_told nu_27 x) := by
  unfold f_X11_told f_X12_told
  rw [in_same]
  have c : (f_X11_within x (1 : Int32) (6 : Int32) = some 0) ∨ (f_X11_within x (1 : Int32) (6 : Int32) = some 1 ∧ ∃ k, 1 ≤ k ∧ k ≤ 6 ∧ x = nI k) := by
    unfold f_X11_within
    by_cases h0 : x < 1
    · rw [if_pos h0]; exact Or.inl rfl
    · rw [if_neg h0]
      have h00 : ¬ x < 0 := fun h => h0 (Int32.lt_trans h (by decide))
      obtain ⟨k, hk, rfl⟩ := nI_of h00
      by_cases h1 : (6 : Int32) < nI k
      · rw [if_pos h1]; exact Or.inl rfl
      · rw [if_neg h1]
        rw [show (6 : Int32) = nI 6 from rfl, nI_ltI (by omega) hk] at h1
        rw [show (1 : Int32) = nI 1 from rfl, nI_ltI hk (by omega)] at h0
        exact Or.inr ⟨rfl, k, by omega, by omega, rfl⟩
  rcases c with e | ⟨e, k, k1, k2, rfl⟩
  · rw [e]
    exact (errs_ok NR_new (c := 1) (by omega)).mono fun a b h => h.1
  · rw [e]
    simp only [Option.bind_some]
    have h : ∀ k, k < 7 → mu0 84 k = nu_27 4 k := by decide +kernel
    rw [if_neg (show ¬ (1 : Int32) = 0 by decide), if_neg (show ¬ (1 : Int32) = 0 by decide), if_pos (in_k (show k < 7 by omega) (by omega)), if_pos (in_k (show k < 7 by omega) (by omega)), cl_I (by omega)]
    exact Sim.pure (h k (by omega))
theorem new_tell (x : Int32) : Sim (fun a b : Mem × Int32 => a.2 = b.2) (f_X11_tell mu0 x) (f_X12_tell nu_27 x) := by
  unfold f_X11_tell f_X12_tell
  have m6 : mu0 1 6 = nI 0 := by decide +kernel
  have n3 : nu_27 1 3 = nI 0 := by decide +kernel
  have i3 : inb (3 : Int32) 387 = true := by decide
  have c3 : (3 : Int32).toNatClampNeg = 3 := by decide
  have z : (nI 0).toNatClampNeg = 0 := by decide
  have s : (363 : Int32) + nI 0 = nI 363 := by decide
  have i5 : inb (nI 363) 387 = true := by decide
  have c5 : (nI 363).toNatClampNeg = 363 := by decide
  rw [if_pos (show mu0 1 6 < (24 : Int32) by rw [m6]; decide), m6, if_pos (show inb (nI 0) 24 = true by decide), if_pos i3, c3, n3, if_neg (show ¬ nI 0 = (24 : Int32) by decide), if_pos i3, s, if_pos i5]
  simp only [bd]
  rw [if_pos i3, if_pos i3, if_pos i3, c5]
  refine Sim.pure ?_
  simp only [upA_s, upd_s]
  rw [upA_o _ _ (show (1 : Nat) ≠ 3 by decide), m6, upd_o _ _ (show (3 : Nat) ≠ 363 by decide), n3]
