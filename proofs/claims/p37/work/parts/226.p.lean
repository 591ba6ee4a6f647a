theorem of_dec : ∀ a : Nat, a < 7 → ∀ b : Nat, b < 7 → ∃ r : Int32, (r = 0 ∨ r = 1) ∧ f_X12_isUnder (nI a) (nI b) = some r ∧
    (∀ μ, (if a = 0 then f_X11_isOf_k0 μ (nI b) else if a = 1 then f_X11_isOf_k1 μ (nI b) else if a = 2 then f_X11_isOf_k2 μ (nI b) else if a = 3 then f_X11_isOf_k3 μ (nI b)
      else if a = 4 then f_X11_isOf_k4 μ (nI b) else if a = 5 then f_X11_isOf_k5 μ (nI b) else f_X11_isOf_k6 μ (nI b)) = some (μ, r)) := by
  intro a ha b hb
  have h1 : a = 0 ∨ a = 1 ∨ a = 2 ∨ a = 3 ∨ a = 4 ∨ a = 5 ∨ a = 6 := by omega
  have h2 : b = 0 ∨ b = 1 ∨ b = 2 ∨ b = 3 ∨ b = 4 ∨ b = 5 ∨ b = 6 := by omega
  rcases h1 with e | e | e | e | e | e | e <;> subst e <;> rcases h2 with e | e | e | e | e | e | e <;> subst e <;>
    first | exact ⟨0, Or.inl rfl, rfl, fun _ => rfl⟩ | exact ⟨1, Or.inr rfl, rfl, fun _ => rfl⟩
theorem as_op {μ ν : Mem} (h : NR μ ν) (x y : Int32) : Sim (OR μ ν) (f_X11_as μ x y) (f_X12_as ν x y) := by
  unfold f_X11_as f_X12_as
  rcases one_cases x with ⟨e1, -, e3⟩ | ⟨e1, -, e3, k, hk, rfl⟩
  · rw [e1, e3]
    exact errs_ok h (c := 1) (by omega)
  · rw [e1, e3, in_same]
    simp only [Option.bind_some]
    rw [if_neg (show ¬ (1 : Int32) = 0 by decide), if_neg (show ¬ (1 : Int32) = 0 by decide)]
    rcases in_cases y (n := 6) (by omega) with e | ⟨e, l, hl, rfl⟩
    · rw [show f_X11_within y (0 : Int32) (6 : Int32) = some 0 from e]
      exact errs_ok h (c := 1) (by omega)
    · rw [show f_X11_within (nI l) (0 : Int32) (6 : Int32) = some 1 from e]
      obtain ⟨⟨q, hq, r⟩, z⟩ := id h
      obtain ⟨j, hj, ej⟩ := r.kb k hk
      obtain ⟨v, hv, u1, u2⟩ := of_dec j hj l (by omega)
      have i1 := in_k hk (show 9 ≤ 100000 by omega)
      have c1 := cl_I (show k < 2 ^ 31 by omega)
      simp only [Option.bind_some]
      rw [if_neg (show ¬ (1 : Int32) = 0 by decide), if_neg (show ¬ (1 : Int32) = 0 by decide), kind_k hk hj ej, show f_X12_its ν (nI k) (0 : Int32) = some (ν, nI j) from (its_k ν 0 hk (by omega)).trans (by rw [← r.kd k hk, ej])]
      simp only [Option.bind_some, bd, put_self]
      rw [u1, show f_X12_its ν (nI k) (1 : Int32) = _ from its_k ν 1 hk (by omega)]
      simp only [Option.bind_some]
      have fin : Sim (OR μ ν) (if v = 0 then (f_X11_fails μ (5 : Int32)).bind fun q9 => some (q9.1, q9.2) else some (μ, μ 25 k))
          (if v = 0 then (f_X12_error ν (5 : Int32)).bind fun q6 => some (q6.1, q6.2) else some (ν, ν 1 (8 + 5 * k + 1))) := by
        by_cases hz : v = 0
        · rw [if_pos hz, if_pos hz]; exact errs_ok h (c := 5) (by omega)
        · rw [if_neg hz, if_neg hz]; exact Sim.pure ⟨r.mm k hk, h, FT.refl _ _⟩
      have h1 : j = 0 ∨ j = 1 ∨ j = 2 ∨ j = 3 ∨ j = 4 ∨ j = 5 ∨ j = 6 := by omega
      have u2' := u2 (sub [67, 68, 69, 70, 71, 72, 73] μ)
      rcases h1 with e | e | e | e | e | e | e <;> subst e
      · have g : f_X11_isOf_k0 (sub [67, 68, 69, 70, 71, 72, 73] μ) (nI l) = some (sub [67, 68, 69, 70, 71, 72, 73] μ, v) := u2'
        simp only [g, Option.bind_some, put_self, Nat.reduceAdd, Nat.reduceEqDiff, if_true, if_false, i1, c1]
        exact fin
      · have g : f_X11_isOf_k1 (sub [67, 68, 69, 70, 71, 72, 73] μ) (nI l) = some (sub [67, 68, 69, 70, 71, 72, 73] μ, v) := u2'
        simp only [g, Option.bind_some, put_self, Nat.reduceAdd, Nat.reduceEqDiff, if_true, if_false, i1, c1]
        exact fin
      · have g : f_X11_isOf_k2 (sub [67, 68, 69, 70, 71, 72, 73] μ) (nI l) = some (sub [67, 68, 69, 70, 71, 72, 73] μ, v) := u2'
        simp only [g, Option.bind_some, put_self, Nat.reduceAdd, Nat.reduceEqDiff, if_true, if_false, i1, c1]
        exact fin
      · have g : f_X11_isOf_k3 (sub [67, 68, 69, 70, 71, 72, 73] μ) (nI l) = some (sub [67, 68, 69, 70, 71, 72, 73] μ, v) := u2'
        simp only [g, Option.bind_some, put_self, Nat.reduceAdd, Nat.reduceEqDiff, if_true, if_false, i1, c1]
        exact fin
      · have g : f_X11_isOf_k4 (sub [67, 68, 69, 70, 71, 72, 73] μ) (nI l) = some (sub [67, 68, 69, 70, 71, 72, 73] μ, v) := u2'
        simp only [g, Option.bind_some, put_self, Nat.reduceAdd, Nat.reduceEqDiff, if_true, if_false, i1, c1]
        exact fin
      · have g : f_X11_isOf_k5 (sub [67, 68, 69, 70, 71, 72, 73] μ) (nI l) = some (sub [67, 68, 69, 70, 71, 72, 73] μ, v) := u2'
        simp only [g, Option.bind_some, put_self, Nat.reduceAdd, Nat.reduceEqDiff, if_true, if_false, i1, c1]
        exact fin
      · have g : f_X11_isOf_k6 (sub [67, 68, 69, 70, 71, 72, 73] μ) (nI l) = some (sub [67, 68, 69, 70, 71, 72, 73] μ, v) := u2'
        simp only [g, Option.bind_some, put_self, Nat.reduceAdd, Nat.reduceEqDiff, if_true, if_false, i1, c1]
        exact fin
