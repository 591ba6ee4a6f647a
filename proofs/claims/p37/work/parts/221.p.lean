theorem sub_upA {μ : Mem} {c i : Nat} (g : Nat → Int32) (hi : i < 22) (hc : PN.getD i 0 = c) (hn : ∀ j, j < 22 → j ≠ i → PN.getD j 0 ≠ c) (h0 : c ≠ 0) :
    sub PN (upA μ c g) = upA (sub PN μ) i g := by
  funext j
  show upA μ c g (PN.getD j 0) = upA (sub PN μ) i g j
  by_cases hj : j = i
  · subst hj; rw [hc, upA_s, upA_s]
  · rw [upA_o _ _ hj, upA_o]
    · rfl
    · by_cases hj2 : j < 22
      · exact hn j hj2 hj
      · rw [PN_big (by omega)]; exact fun e => h0 e.symm
theorem sub_23 (μ : Mem) (g : Nat → Int32) : sub PN (upA μ 23 g) = upA (sub PN μ) 0 g := sub_upA g (by decide) rfl (by decide) (by decide)
theorem sub_24 (μ : Mem) (g : Nat → Int32) : sub PN (upA μ 24 g) = upA (sub PN μ) 1 g := sub_upA g (by decide) rfl (by decide) (by decide)
theorem sub_25 (μ : Mem) (g : Nat → Int32) : sub PN (upA μ 25 g) = upA (sub PN μ) 2 g := sub_upA g (by decide) rfl (by decide) (by decide)
theorem sub_27 (μ : Mem) (g : Nat → Int32) : sub PN (upA μ 27 g) = upA (sub PN μ) 4 g := sub_upA g (by decide) rfl (by decide) (by decide)
theorem sub_28 (μ : Mem) (g : Nat → Int32) : sub PN (upA μ 28 g) = upA (sub PN μ) 5 g := sub_upA g (by decide) rfl (by decide) (by decide)
theorem FT.one {μ ν : Mem} {c i : Nat} (g : Nat → Int32) (v : Int32) (hc : c ∈ [8, 12, 23, 24, 25, 26, 27, 28, 84]) (hi : i < 2 ∨ (8 ≤ i ∧ i < 53)) :
    FT μ ν (upA μ c g) (upA ν 1 (upd (ν 1) i v)) := by
  refine ⟨Off.upA hc, Off.upA (by decide), fun j h1 h2 => ?_, fun j h1 => ?_⟩
  · rw [upA_s, upd_o _ _ (by omega)]
  · rw [upA_s, upd_o _ _ (by omega)]
theorem patience_op {μ ν : Mem} (h : NR μ ν) (x y : Int32) : Sim (OR μ ν) (f_X11_patience μ x y) (f_X12_patience ν x y) := by
  unfold f_X11_patience f_X12_patience
  rcases one_cases x with ⟨e1, -, e3⟩ | ⟨e1, -, e3, k, hk, rfl⟩
  · rw [e1, e3]
    exact errs_ok h (c := 1) (by omega)
  · rw [e1, e3, in_same]
    simp only [Option.bind_some]
    rw [if_neg (show ¬ (1 : Int32) = 0 by decide), if_neg (show ¬ (1 : Int32) = 0 by decide)]
    rcases in_cases y (n := 999) (by omega) with e | ⟨e, l, hl, rfl⟩
    · rw [show (999 : Int32) = nI 999 from rfl, e]
      exact errs_ok h (c := 1) (by omega)
    · rw [show (999 : Int32) = nI 999 from rfl, e]
      obtain ⟨⟨q, hq, r⟩, z⟩ := id h
      simp only [Option.bind_some]
      rw [if_neg (show ¬ (1 : Int32) = 0 by decide), if_neg (show ¬ (1 : Int32) = 0 by decide), st4 hk (r.ob k hk), st12 hk, ← r.ou k hk]
      simp only [Option.bind_some, bd, put_self]
      rw [show (if sub PN μ 5 k = -1 then (1 : Int32) else 0) = stB (sub PN μ) k from rfl]
      by_cases hs : stB (sub PN μ) k = 0
      · rw [if_pos hs, if_pos hs]
        exact errs_ok h (c := 3) (by omega)
      · rw [if_neg hs, if_neg hs, if_pos (in_k hk (by omega)), if_pos (in_k hk (by omega)), cl_I (show k < 2 ^ 31 by omega), show f_X12_its ν (nI k) (3 : Int32) = _ from its_k ν 3 hk (by omega)]
        simp only [Option.bind_some]
        rw [show f_X12_lays1 ν (nI k) (3 : Int32) (nI l) = _ from lays_k ν 3 (nI l) hk (by omega)]
        simp only [Option.bind_some]
        obtain ⟨r1, f1⟩ := r.left hk (show l < 1000 by omega)
        have e27 : sub PN (upA μ 27 (upd (μ 27) k (nI l))) = upA (sub PN μ) 4 (upd (sub PN μ 4) k (nI l)) := sub_27 _ _
        rw [show μ 27 k = ν 1 (8 + 5 * k + 3) from r.le k hk]
        have se := settle_ok (by omega : q < 2 ^ 30) r1
        rw [← e27] at se
        refine se.bind ?_
        rintro ⟨a, y⟩ ⟨b, w⟩ ⟨e, r2, f2, z2, -⟩
        refine Sim.pure ?_
        obtain ⟨o1, o2, o3⟩ := NR.back hq r2 f2 z2 (ν 1 (8 + 5 * k + 3))
        exact ⟨rfl, o2, (FT.one _ _ (by decide) (by omega)).trans o3⟩
