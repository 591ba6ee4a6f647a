abbrev RAL (a b : Mem × Int64) : Prop := a.2 = b.2 ∧ Rel a.1 b.1
theorem Rel.errL {μ ν : Mem} (h : Rel μ ν) {c : Nat} (hc : c < 7) : Sim RAL ((f_X11_fails μ (nI c)).bind fun q => some (q.1, q.2.toInt64)) ((f_X12_error ν (nI c)).bind fun q => some (q.1, q.2.toInt64)) := by
  refine (err_ok h.nr hc).bind ?_
  rintro ⟨a, y⟩ ⟨b, w⟩ k
  have := h.or k
  obtain rfl : y = w := this.1
  exact Sim.pure ⟨rfl, this.2⟩
theorem sl_k {i : Nat} (hi : i < 4) (g : Nat) (μ : Mem) (x2 : Int32) (x3 x5 : Int64) (x7 : Int32) : f_X11_slate_L57 (g + 1) μ (nI i) x2 x3 x5 x7 = (if (9 : Int32) ≤ x7 then (f_X11_commonDivisor x3 x5).bind fun q7 => (if x2 = 0 then (if ¬ q7 = 0 then some (μ, (x3 / q7)) else none) else (if ¬ q7 = 0 then some (μ, (x5 / q7)) else none))
    else (if inb x7 24 = true then (f_X11_within (μ (78 + i) x7.toNatClampNeg) (1 : Int32) (99 : Int32)).bind fun q12 => (if q12 = 0 then (f_X11_fails μ (6 : Int32)).bind fun q15 => some (q15.1, q15.2.toInt64)
      else f_X11_slate_L57 g μ (nI i) x2 ((x3 * (μ (78 + i) x7.toNatClampNeg).toInt64) + x5) (x5 * (μ (78 + i) x7.toNatClampNeg).toInt64) (x7 + 1)) else none)) := by
  have : i = 0 ∨ i = 1 ∨ i = 2 ∨ i = 3 := by omega
  rcases this with e | e | e | e <;> subst e
  · exact sl_0 g μ x2 x3 x5 x7
  · exact sl_1 g μ x2 x3 x5 x7
  · exact sl_2 g μ x2 x3 x5 x7
  · exact sl_3 g μ x2 x3 x5 x7
theorem p99 : ∀ j, j ≤ 9 → 99 ^ j < 2 ^ 60 ∧ 9 * 99 ^ j < 2 ^ 63 := by decide +kernel
theorem slate_L {i : Nat} (hi : i < 4) {μ ν : Mem} (h : Rel μ ν) (x2 : Int32) : ∀ (r j N D n d t f g : Nat), j + r = 9 → r < f → r < g → N = n * t → D = d * t → 1 ≤ t → 1 ≤ d → Nat.gcd n d = 1 → D ≤ 99 ^ j → N ≤ j * 99 ^ j →
    Sim RAL (f_X11_slate_L57 f μ (nI i) x2 (lN N) (lN D) (nI j)) (f_X12_slate_L58 g ν (nI i) x2 (lN n) (lN d) (nI j)) := by
  intro r
  induction r with
  | zero =>
    intro j N D n d t f g hj hf hg hN hD ht hd hg1 hD9 hN9
    obtain ⟨f, rfl⟩ : ∃ f', f = f' + 1 := ⟨f - 1, by omega⟩
    obtain ⟨g, rfl⟩ : ∃ g', g = g' + 1 := ⟨g - 1, by omega⟩
    obtain rfl : j = 9 := by omega
    obtain ⟨b1, b2⟩ := p99 9 (by omega)
    have n63 : N < 2 ^ 63 := by omega
    have d60 : D < 2 ^ 60 := by omega
    have dpos : 0 < D := by rw [hD]; exact Nat.mul_pos (by omega) (by omega)
    have gt : Nat.gcd N D = t := by rw [hN, hD, Nat.gcd_mul_right, hg1, Nat.one_mul]
    have tN : t ≤ D := by rw [hD]; exact Nat.le_mul_of_pos_left t (by omega)
    rw [sl_k hi, f_X12_slate_L58, if_pos (show (9 : Int32) ≤ nI 9 by decide), if_pos (show (9 : Int32) ≤ nI 9 by decide), (divC n63 d60 dpos).2, Option.bind_some, gt, if_pos (show ¬ lN t = 0 from fun e => by have := (lnz (by omega)).mp e; omega),
      if_pos (show ¬ lN t = 0 from fun e => by have := (lnz (by omega)).mp e; omega), pk_lDiv n63 (by omega) (by omega), pk_lDiv (by omega) (by omega) (by omega)]
    have e1 : N / t = n := by rw [hN]; exact Nat.mul_div_cancel n (by omega)
    have e2 : D / t = d := by rw [hD]; exact Nat.mul_div_cancel d (by omega)
    rw [e1, e2]
    by_cases hx : x2 = 0
    · rw [if_pos hx, if_pos hx]; exact Sim.pure ⟨rfl, h⟩
    · rw [if_neg hx, if_neg hx]; exact Sim.pure ⟨rfl, h⟩
  | succ r ih =>
    intro j N D n d t f g hj hf hg hN hD ht hd hg1 hD9 hN9
    obtain ⟨f, rfl⟩ : ∃ f', f = f' + 1 := ⟨f - 1, by omega⟩
    obtain ⟨g, rfl⟩ : ∃ g', g = g' + 1 := ⟨g - 1, by omega⟩
    obtain ⟨-, -, -, eq⟩ := h.sh i hi
    have ev := eq j (by omega)
    have e9 : ¬ (9 : Int32) ≤ nI j := by rw [show (9 : Int32) = nI 9 from rfl, nI_leI (by omega) (by omega)]; omega
    rw [sl_k hi, f_X12_slate_L58, if_neg e9, if_neg e9,
      if_pos (in_k (show j < 24 by omega) (by omega)), cl_I (show j < 2 ^ 31 by omega), show (24 : Int32) = nI 24 from rfl, nI_mulI, nI_add, if_pos (in_k (show 24 * i + j < 96 by omega) (by omega)), cl_I (show 24 * i + j < 2 ^ 31 by omega), bd_eq, ev, in_same]
    rcases in_lh (ν 12 (24 * i + j)) (l := 1) (n := 99) (by omega) (by omega) with e | ⟨e, y, y1, y2, ey⟩
    · rw [show f_X11_within (ν 12 (24 * i + j)) (1 : Int32) (99 : Int32) = _ from e]
      rw [Option.bind_some, Option.bind_some, if_pos rfl, if_pos rfl]
      exact h.errL (c := 6) (by omega)
    · rw [show f_X11_within (ν 12 (24 * i + j)) (1 : Int32) (99 : Int32) = _ from e, ey]
      rw [Option.bind_some, Option.bind_some, if_neg n1, if_neg n1, nI_l (by omega), lN_mul, lN_mul, lN_add, lN_mul, lN_mul, lN_add, bd_eq, bd_eq, nI_1]
      -- sizes
      obtain ⟨b1, b2⟩ := p99 (j + 1) (by omega)
      have D' : D * y ≤ 99 ^ (j + 1) := by rw [Nat.pow_succ]; exact Nat.mul_le_mul hD9 y2
      have N' : N * y + D ≤ (j + 1) * 99 ^ (j + 1) := by
        have a : N * y ≤ j * 99 ^ j * 99 := Nat.mul_le_mul hN9 y2
        have pw : 99 ^ j * 99 = 99 ^ (j + 1) := (Nat.pow_succ 99 j).symm
        rw [Nat.mul_assoc, pw] at a
        have b : 99 ^ j ≤ 99 ^ (j + 1) := Nat.pow_le_pow_right (by omega) (by omega)
        rw [Nat.succ_mul]
        omega
      have nine' : (j + 1) * 99 ^ (j + 1) ≤ 9 * 99 ^ (j + 1) := Nat.mul_le_mul_right _ (by omega)
      have eN : N * y + D = (n * y + d) * t := by
        rw [hN, hD, Nat.add_mul, Nat.mul_assoc, Nat.mul_comm t y, ← Nat.mul_assoc]
      have eD : D * y = d * y * t := by
        rw [hD, Nat.mul_assoc, Nat.mul_comm t y, ← Nat.mul_assoc]
      have l1 : n * y + d ≤ N * y + D := by rw [eN]; exact Nat.le_mul_of_pos_right _ (by omega)
      have l2 : d * y ≤ D * y := by rw [eD]; exact Nat.le_mul_of_pos_right _ (by omega)
      have dy : 0 < d * y := Nat.mul_pos (by omega) (by omega)
      have g0 : 0 < Nat.gcd (n * y + d) (d * y) := Nat.gcd_pos_of_pos_right _ dy
      have gle : Nat.gcd (n * y + d) (d * y) ≤ d * y := Nat.gcd_le_right _ dy
      rw [(divC (a := n * y + d) (b := d * y) (by omega) (by omega) dy).1, Option.bind_some]
      have gd1 := Nat.gcd_dvd_left (n * y + d) (d * y)
      have gd2 := Nat.gcd_dvd_right (n * y + d) (d * y)
      have gg := Nat.gcd_div gd1 gd2
      generalize hG : Nat.gcd (n * y + d) (d * y) = G at *
      have gz : ¬ lN G = 0 := fun e => by have := (lnz (by omega)).mp e; omega
      rw [if_pos gz, bd_eq, if_pos gz, bd_eq, pk_lDiv (by omega) g0 (by omega), pk_lDiv (by omega) g0 (by omega)]
      refine ih (j + 1) _ _ _ _ (G * t) f g (by omega) (by omega) (by omega) ?_ ?_ ?_ ?_ ?_ D' N'
      · rw [eN, ← Nat.mul_assoc, Nat.div_mul_cancel gd1]
      · rw [eD, ← Nat.mul_assoc, Nat.div_mul_cancel gd2]
      · exact Nat.mul_pos g0 (by omega)
      · exact Nat.div_pos gle g0
      · rw [gg]; exact Nat.div_self g0
theorem slate_op {μ ν : Mem} (h : Rel μ ν) (x y : Int32) : Sim RAL (f_X11_slate μ x y) (f_X12_slate ν x y) := by
  unfold f_X11_slate f_X12_slate
  rw [in_same]
  rcases sheet_cases x with ⟨e1, e2⟩ | ⟨e1, e2, i, hi, rfl⟩
  · rw [e1, e2]
    exact h.errL (c := 1) (by omega)
  · rw [e1, e2]
    rw [Option.bind_some, Option.bind_some, if_neg n1, if_neg n1]
    rcases in_lh y (l := 0) (n := 1) (by omega) (by omega) with e | ⟨e, m, -, m2, rfl⟩
    · rw [show f_X11_within y (0 : Int32) (1 : Int32) = _ from e]
      exact h.errL (c := 1) (by omega)
    · rw [show f_X11_within (nI m) (0 : Int32) (1 : Int32) = _ from e]
      obtain ⟨e82, -, ⟨n, n24, e83, e11⟩, -⟩ := h.sh i hi
      have i4' := in_k (show i < 4 from hi) (by omega)
      unfold f_X11_isMissing
      rw [Option.bind_some, Option.bind_some, if_neg n1, if_neg n1, if_pos i4', if_pos i4', cl_I (by omega), e82]
      by_cases hz : ν 10 i = 0
      · rw [if_pos hz, if_pos hz, Option.bind_some, if_neg n1]
        exact h.errL (c := 2) (by omega)
      · rw [if_neg hz, if_neg hz, Option.bind_some, if_pos rfl, if_pos i4', if_pos i4', show (μ, (0 : Int32)).1 83 i = nI n from e83, e11]
        by_cases h9 : (9 : Int32) ≤ nI n
        · rw [if_pos h9, if_pos h9]
          exact slate_L hi h (nI m) 9 0 0 1 0 1 1 fuel0 fuel0 (by omega) (fuel_ge 9 (by omega)) (fuel_ge 9 (by omega)) rfl rfl (by omega) (by omega) rfl (by omega) (by omega)
        · rw [if_neg h9, if_neg h9]
          exact h.errL (c := 2) (by omega)
