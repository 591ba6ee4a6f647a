theorem ten_dec : ∀ y : Nat, y < 70 → nI y / (10 : Int32) = nI (y / 10) ∧ nI y - nI y / (10 : Int32) * (10 : Int32) = nI (y % 10) := by decide +kernel
theorem stander_op {μ ν : Mem} (h : NR μ ν) (x y : Int32) : Sim (OR μ ν) (f_X11_stander μ x y) (f_X12_stander ν x y) := by
  unfold f_X11_stander f_X12_stander
  rcases one_cases x with ⟨e1, -, e3⟩ | ⟨e1, -, e3, k, hk, rfl⟩
  · rw [e1, e3]
    exact errs_ok h (c := 1) (by omega)
  · rw [e1, e3, in_same]
    simp only [Option.bind_some]
    rw [if_neg (show ¬ (1 : Int32) = 0 by decide), if_neg (show ¬ (1 : Int32) = 0 by decide)]
    rcases in_cases y (n := 69) (by omega) with e | ⟨e, l, hl, rfl⟩
    · rw [show (69 : Int32) = nI 69 from rfl, e]
      exact errs_ok h (c := 1) (by omega)
    · rw [show (69 : Int32) = nI 69 from rfl, e]
      obtain ⟨⟨q, hq, r⟩, z⟩ := id h
      simp only [Option.bind_some, bd]
      obtain ⟨t1, t2⟩ := ten_dec l (by omega)
      rw [if_neg (show ¬ (1 : Int32) = 0 by decide), if_neg (show ¬ (1 : Int32) = 0 by decide), t1, ← t1, t2, t1]
      have i1 := in_k hk (show 9 ≤ 100000 by omega)
      have c1 := cl_I (show k < 2 ^ 31 by omega)
      rw [if_pos i1, if_pos i1, if_pos i1, if_pos i1, c1, show f_X12_its ν (nI k) (0 : Int32) = _ from its_k ν 0 hk (by omega)]
      simp only [Option.bind_some]
      rw [show f_X12_its ν (nI k) (1 : Int32) = _ from its_k ν 1 hk (by omega)]
      simp only [Option.bind_some]
      rw [show ∀ v, f_X12_lays1 ν (nI k) (0 : Int32) v = _ from fun v => lays_k ν 0 v hk (by omega)]
      simp only [Option.bind_some]
      rw [show ∀ ν' v, f_X12_lays1 ν' (nI k) (1 : Int32) v = _ from fun ν' v => lays_k ν' 1 v hk (by omega)]
      simp only [Option.bind_some]
      have r1 := r.kindp hk (show l / 10 < 7 by omega)
      have r2 := r1.mp hk (show l % 10 < 10 by omega)
      have e24 := sub_24 μ (upd (μ 24) k (nI (l / 10)))
      have e25 := sub_25 (upA μ 24 (upd (μ 24) k (nI (l / 10)))) (upd (upA μ 24 (upd (μ 24) k (nI (l / 10))) 25) k (nI (l % 10)))
      refine Sim.pure ⟨?_, ?_, ?_⟩
      · show (10 : Int32) * μ 24 k + μ 25 k = (10 : Int32) * ν 1 (8 + 5 * k + 0) + ν 1 (8 + 5 * k + 1)
        rw [show μ 24 k = ν 1 (8 + 5 * k + 0) from r.kd k hk, show μ 25 k = ν 1 (8 + 5 * k + 1) from r.mm k hk]
      · unfold NR
        rw [e25, e24]
        exact ⟨⟨q, hq, r2⟩, z⟩
      · exact (FT.one _ _ (by decide) (by omega)).trans (FT.one _ _ (by decide) (by omega))
/-- what scratch alone changed is the same row -/
theorem Set0.scr {ρ ρ' : Mem} (z : Set0 ρ) (o : Off [7, 11] ρ ρ') : Set0 ρ' := by
  intro k hk h5
  rw [o 5 (by decide)] at h5
  rw [o 4 (by decide)]
  exact z k hk h5
theorem standerIs_op {μ ν : Mem} (h : NR μ ν) (x y : Int32) : Sim (OR μ ν) (f_X11_standerIs μ x y) (f_X12_standerIs ν x y) := by
  unfold f_X11_standerIs f_X12_standerIs
  rcases one_cases x with ⟨e1, -, e3⟩ | ⟨e1, -, e3, k, hk, rfl⟩
  · rw [e1, e3]
    exact errs_ok h (c := 1) (by omega)
  · rw [e1, e3, in_same]
    simp only [Option.bind_some]
    rw [if_neg (show ¬ (1 : Int32) = 0 by decide), if_neg (show ¬ (1 : Int32) = 0 by decide)]
    rcases in_cases y (n := 6) (by omega) with e | ⟨e, l, hl, rfl⟩
    · rw [show f_X11_within y (0 : Int32) (6 : Int32) = some 0 from e]
      exact errs_ok h (c := 1) (by omega)
    · rw [show f_X11_within (nI l) (0 : Int32) (6 : Int32) = some 1 from e]
      obtain ⟨⟨q, hq, r⟩, z⟩ := id h
      simp only [Option.bind_some]
      rw [if_neg (show ¬ (1 : Int32) = 0 by decide), if_neg (show ¬ (1 : Int32) = 0 by decide)]
      have i1 := in_k hk (show 9 ≤ 100000 by omega)
      have c1 := cl_I (show k < 2 ^ 31 by omega)
      have same : ∀ v, Sim (OR μ ν) (some (μ, v)) (some (ν, v)) := fun v => Sim.pure ⟨rfl, h, FT.refl _ _⟩
      have : l = 0 ∨ l = 1 ∨ l = 2 ∨ l = 3 ∨ l = 4 ∨ l = 5 ∨ l = 6 := by omega
      rcases this with e | e | e | e | e | e | e <;> subst e
      · rw [if_pos (show nI 0 = (0 : Int32) from rfl), if_neg (show ¬ (5 : Int32) ≤ nI 0 by decide), if_pos i1, c1, its_k ν 0 hk (by omega), show μ 24 k = ν 1 (8 + 5 * k + 0) from r.kd k hk]
        exact same _
      · rw [if_neg (show ¬ nI 1 = (0 : Int32) by decide), if_pos (show nI 1 = (1 : Int32) from rfl), if_neg (show ¬ (5 : Int32) ≤ nI 1 by decide), if_pos i1, c1, its_k ν 1 hk (by omega), show μ 25 k = ν 1 (8 + 5 * k + 1) from r.mm k hk]
        exact same _
      · rw [if_neg (show ¬ nI 2 = (0 : Int32) by decide), if_neg (show ¬ nI 2 = (1 : Int32) by decide), if_neg (show ¬ nI 2 = (5 : Int32) by decide), if_neg (show ¬ nI 2 = (6 : Int32) by decide), if_neg (show ¬ (5 : Int32) ≤ nI 2 by decide), its_k ν 2 hk (by omega)]
        unfold f_X4_is
        rw [if_pos (show nI 2 = (2 : Int32) from rfl), if_pos i1, c1]
        simp only [Option.bind_some, bd, put_self]
        rw [show sub PN μ 3 k = ν 1 (8 + 5 * k + 2) from r.po k hk]
        exact same _
      · rw [if_neg (show ¬ nI 3 = (0 : Int32) by decide), if_neg (show ¬ nI 3 = (1 : Int32) by decide), if_neg (show ¬ nI 3 = (5 : Int32) by decide), if_neg (show ¬ nI 3 = (6 : Int32) by decide), if_neg (show ¬ (5 : Int32) ≤ nI 3 by decide), its_k ν 3 hk (by omega)]
        unfold f_X4_is
        rw [if_neg (show ¬ nI 3 = (2 : Int32) by decide), if_pos (show nI 3 = (3 : Int32) from rfl), if_pos i1, c1]
        simp only [Option.bind_some, bd, put_self]
        rw [show sub PN μ 4 k = ν 1 (8 + 5 * k + 3) from r.le k hk]
        exact same _
      · rw [if_neg (show ¬ nI 4 = (0 : Int32) by decide), if_neg (show ¬ nI 4 = (1 : Int32) by decide), if_neg (show ¬ nI 4 = (5 : Int32) by decide), if_neg (show ¬ nI 4 = (6 : Int32) by decide), if_neg (show ¬ (5 : Int32) ≤ nI 4 by decide), its_k ν 4 hk (by omega)]
        unfold f_X4_is
        rw [if_neg (show ¬ nI 4 = (2 : Int32) by decide), if_neg (show ¬ nI 4 = (3 : Int32) by decide), if_pos i1, c1]
        simp only [Option.bind_some, bd, put_self]
        rw [show sub PN μ 5 k = ν 1 (8 + 5 * k + 4) from r.ou k hk]
        exact same _
      · rw [if_neg (show ¬ nI 5 = (0 : Int32) by decide), if_neg (show ¬ nI 5 = (1 : Int32) by decide), if_pos (show nI 5 = (5 : Int32) from rfl), if_pos (show (5 : Int32) ≤ nI 5 by decide), if_pos (show nI 5 = (5 : Int32) from rfl)]
        refine (spends_ok r hk).bind ?_
        rintro ⟨a, y⟩ ⟨b, w⟩ ⟨⟨j, hj, e1, e2⟩, o1, o2⟩
        have e1' : y = nI j := e1
        have e2' : w = nI j := e2
        subst e1' e2'
        exact Sim.pure (NR.back hq (r.scr o1 o2) (Fr.scr o1 o2) (z.scr o1) (nI j))
      · rw [if_neg (show ¬ nI 6 = (0 : Int32) by decide), if_neg (show ¬ nI 6 = (1 : Int32) by decide), if_neg (show ¬ nI 6 = (5 : Int32) by decide), if_pos (show nI 6 = (6 : Int32) from rfl), if_pos (show (5 : Int32) ≤ nI 6 by decide), if_neg (show ¬ nI 6 = (5 : Int32) by decide)]
        obtain ⟨j, hj, b1, b2⟩ := bite_ok r hk
        rw [b1, b2]
        simp only [Option.bind_some, bd, put_self]
        exact same _
