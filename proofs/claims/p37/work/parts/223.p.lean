theorem RR.swp {q : Nat} {ρ ν : Mem} (h : RR q ρ ν) {k1 k2 : Nat} (h1 : k1 < 9) (h2 : k2 < 9) :
    RR q (upA ρ 3 (upd (upd (ρ 3) k1 (ρ 3 k2)) k2 (ρ 3 k1))) (upA ν 1 (upd (upd (ν 1) (8 + 5 * k1 + 2) (ν 1 (8 + 5 * k2 + 2))) (8 + 5 * k2 + 2) (ν 1 (8 + 5 * k1 + 2)))) := by
  refine ⟨?_, ?_, ?_, ?_, ?_, ?_, ?_, ?_, h.kb, h.mb, ?_, ?_, h.lb, h.ob, h.sb, ?_, ?_⟩
  · intro k hk; rw [upA_o _ _ (by decide), upA_s, upd_o _ _ (by omega), upd_o _ _ (by omega)]; exact h.kd k hk
  · intro k hk; rw [upA_o _ _ (by decide), upA_s, upd_o _ _ (by omega), upd_o _ _ (by omega)]; exact h.mm k hk
  · intro i hi
    rw [upA_s, upA_s]
    by_cases e : i = k2
    · rw [e, upd_s, upd_s]; exact h.po k1 h1
    · rw [upd_o _ _ e, upd_o (upd (ν 1) (8 + 5 * k1 + 2) (ν 1 (8 + 5 * k2 + 2))) _ (show 8 + 5 * i + 2 ≠ 8 + 5 * k2 + 2 by omega)]
      by_cases e' : i = k1
      · rw [e', upd_s, upd_s]; exact h.po k2 h2
      · rw [upd_o _ _ e', upd_o _ _ (show 8 + 5 * i + 2 ≠ 8 + 5 * k1 + 2 by omega)]; exact h.po i hi
  · intro k hk; rw [upA_o _ _ (by decide), upA_s, upd_o _ _ (by omega), upd_o _ _ (by omega)]; exact h.le k hk
  · intro k hk; rw [upA_o _ _ (by decide), upA_s, upd_o _ _ (by omega), upd_o _ _ (by omega)]; exact h.ou k hk
  · rw [upA_o _ _ (by decide), upA_s, upd_o _ _ (by omega), upd_o _ _ (by omega)]; exact h.sun
  · rw [upA_o _ _ (by decide)]; exact h.mi
  · rw [upA_s, upd_o _ _ (by omega), upd_o _ _ (by omega)]; exact h.mj
  · intro i hi
    rw [upA_s]
    by_cases e : i = k2
    · rw [e, upd_s]; exact h.pb k1 h1
    · rw [upd_o _ _ e]
      by_cases e' : i = k1
      · rw [e', upd_s]; exact h.pb k2 h2
      · rw [upd_o _ _ e']; exact h.pb i hi
  · intro p hp
    obtain ⟨k, hk, ek⟩ := h.pp p hp
    rw [upA_s]
    by_cases e1 : k = k1
    · exact ⟨k2, h2, by rw [upd_s, ← e1]; exact ek⟩
    · by_cases e2 : k = k2
      · refine ⟨k1, h1, ?_⟩
        rw [upd_o _ _ (by omega), upd_s, ← e2]; exact ek
      · exact ⟨k, hk, by rw [upd_o _ _ e2, upd_o _ _ e1]; exact ek⟩
  · exact h.w0.frame rfl rfl (fun i hi => by rw [upA_s, upd_o _ _ (by omega), upd_o _ _ (by omega)])
  · exact h.w1.frame rfl rfl (fun i hi => by rw [upA_s, upd_o _ _ (by omega), upd_o _ _ (by omega)])
theorem upA_2 (μ : Mem) (c : Nat) (f g : Nat → Int32) : upA (upA μ c f) c g = upA μ c g := by
  funext a
  by_cases h : a = c
  · subst h; rw [upA_s, upA_s]
  · rw [upA_o _ _ h, upA_o _ _ h, upA_o _ _ h]
theorem put_26 (μ : Mem) (g : Nat → Int32) : put PN μ (upA (sub PN μ) 3 g) = upA μ 26 g := by
  funext a
  unfold put
  cases e : ixO PN 0 a with
  | none =>
    have : a ≠ 26 := fun h => by rw [h] at e; exact absurd e (by decide)
    exact (upA_o _ _ this).symm
  | some j =>
    have e2 := (ixO_get e).2
    rw [Nat.sub_zero] at e2
    show upA (sub PN μ) 3 g j = upA μ 26 g a
    by_cases hj : j = 3
    · subst hj
      rw [upA_s, show a = 26 from e2.symm, upA_s]
    · have : a ≠ 26 := by
        intro h
        rw [h] at e
        have : ixO PN 0 26 = some 3 := by decide
        rw [this] at e
        exact hj (Option.some.inj e).symm
      rw [upA_o _ _ hj, upA_o _ _ this]
      show μ (PN.getD j 0) = μ a
      rw [e2]
theorem sub_26 (μ : Mem) (g : Nat → Int32) : sub PN (upA μ 26 g) = upA (sub PN μ) 3 g := sub_upA g (by decide) rfl (by decide) (by decide)
theorem FT.two {μ ν : Mem} {c i j : Nat} (g : Nat → Int32) (v w : Int32) (hc : c ∈ [8, 12, 23, 24, 25, 26, 27, 28, 84]) (hi : i < 2 ∨ (8 ≤ i ∧ i < 53)) (hj : j < 2 ∨ (8 ≤ j ∧ j < 53)) :
    FT μ ν (upA μ c g) (upA ν 1 (upd (upd (ν 1) i v) j w)) := by
  refine ⟨Off.upA hc, Off.upA (by decide), fun k h1 h2 => ?_, fun k h1 => ?_⟩
  · rw [upA_s, upd_o _ _ (show k ≠ j by omega), upd_o _ _ (show k ≠ i by omega)]
  · rw [upA_s, upd_o _ _ (show k ≠ j by omega), upd_o _ _ (show k ≠ i by omega)]
theorem swap_op {μ ν : Mem} (h : NR μ ν) (x y : Int32) : Sim (OR μ ν) (f_X11_swap μ x y) (f_X12_swap ν x y) := by
  unfold f_X11_swap f_X12_swap
  rcases one_cases x with ⟨e1, -, e3⟩ | ⟨e1, -, e3, k1, h1, rfl⟩
  · rw [e1, e3]
    exact errs_ok h (c := 1) (by omega)
  · rw [e1, e3]
    simp only [Option.bind_some]
    rw [if_neg (show ¬ (1 : Int32) = 0 by decide), if_neg (show ¬ (1 : Int32) = 0 by decide)]
    rcases one_cases y with ⟨e1, -, e3⟩ | ⟨e1, -, e3, k2, h2, rfl⟩
    · rw [e1, e3]
      exact errs_ok h (c := 1) (by omega)
    · rw [e1, e3]
      obtain ⟨⟨q, hq, r⟩, z⟩ := id h
      simp only [Option.bind_some]
      rw [if_neg (show ¬ (1 : Int32) = 0 by decide), if_neg (show ¬ (1 : Int32) = 0 by decide), st4 h1 (r.ob k1 h1), st12 h1, ← r.ou k1 h1]
      simp only [Option.bind_some, bd, put_self]
      rw [show (if sub PN μ 5 k1 = -1 then (1 : Int32) else 0) = stB (sub PN μ) k1 from rfl]
      by_cases hs : stB (sub PN μ) k1 = 0
      · rw [if_pos hs, if_pos hs]
        exact errs_ok h (c := 3) (by omega)
      · rw [if_neg hs, if_neg hs, st4 h2 (r.ob k2 h2), st12 h2, ← r.ou k2 h2]
        simp only [Option.bind_some, put_self]
        rw [show (if sub PN μ 5 k2 = -1 then (1 : Int32) else 0) = stB (sub PN μ) k2 from rfl]
        by_cases hs : stB (sub PN μ) k2 = 0
        · rw [if_pos hs, if_pos hs]
          exact errs_ok h (c := 3) (by omega)
        · rw [if_neg hs, if_neg hs]
          have i1 := in_k h1 (show 9 ≤ 100000 by omega)
          have i2 := in_k h2 (show 9 ≤ 100000 by omega)
          have c1 := cl_I (show k1 < 2 ^ 31 by omega)
          have c2 := cl_I (show k2 < 2 ^ 31 by omega)
          have E4 : f_X4_changePosts (sub PN μ) (nI k1) (nI k2) = some (upA (sub PN μ) 3 (upd (upd (sub PN μ 3) k1 (sub PN μ 3 k2)) k2 (sub PN μ 3 k1))) := by
            unfold f_X4_changePosts
            simp only [bd]
            rw [if_pos i1, if_pos i2, if_pos i1, if_pos i2, c1, c2, upA_s, upA_2]
          have E12 : f_X12_swaps ν (nI k1) (nI k2) = some (upA ν 1 (upd (upd (ν 1) (8 + 5 * k1 + 2) (ν 1 (8 + 5 * k2 + 2))) (8 + 5 * k2 + 2) (ν 1 (8 + 5 * k1 + 2)))) := by
            unfold f_X12_swaps
            rw [show f_X12_its ν (nI k1) (2 : Int32) = _ from its_k ν 2 h1 (by omega)]
            simp only [Option.bind_some]
            rw [show f_X12_its ν (nI k2) (2 : Int32) = _ from its_k ν 2 h2 (by omega)]
            simp only [Option.bind_some]
            rw [show ∀ v, f_X12_lays1 ν (nI k1) (2 : Int32) v = _ from fun v => lays_k ν 2 v h1 (by omega)]
            simp only [Option.bind_some]
            rw [show ∀ ν' v, f_X12_lays1 ν' (nI k2) (2 : Int32) v = _ from fun ν' v => lays_k ν' 2 v h2 (by omega)]
            simp only [Option.bind_some]
            rw [upA_s, upA_2]
          rw [E4, E12]
          simp only [Option.bind_some]
          rw [put_26, if_pos i1, c1, show ∀ ν', f_X12_its ν' (nI k1) (2 : Int32) = _ from fun ν' => its_k ν' 2 h1 (by omega)]
          simp only [Option.bind_some]
          have r' := r.swp h1 h2
          have e26 := sub_26 μ (upd (upd (sub PN μ 3) k1 (sub PN μ 3 k2)) k2 (sub PN μ 3 k1))
          refine Sim.pure ⟨?_, ?_, ?_⟩
          · have := r'.po k1 h1
            rw [upA_s] at this
            rw [upA_s]
            exact this
          · unfold NR
            rw [e26]
            exact ⟨⟨q, hq, r'⟩, z⟩
          · exact FT.two _ _ _ (by decide) (by omega) (by omega)
