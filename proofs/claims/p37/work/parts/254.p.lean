theorem lgz {b : Nat} (hb : b < 2 ^ 63) : lg_cmp (lN b) (0 : Int64) = 0 ↔ b = 0 := by
  rw [lg_cmp_eq, show (0 : Int64) = lN 0 from rfl, pk_lEQ hb (by omega)]
theorem lnz {b : Nat} (hb : b < 2 ^ 63) : lN b = 0 ↔ b = 0 := by
  rw [show (0 : Int64) = lN 0 from rfl, pk_lEQ hb (by omega)]
theorem gcd_step (a b : Nat) : Nat.gcd b (a % b) = Nat.gcd a b := by
  rw [Nat.gcd_comm b (a % b), ← Nat.gcd_rec, Nat.gcd_comm]
/-- one step of both, when b is not 0 -/
theorem div_1 {a b i f g : Nat} (ha : a < 2 ^ 63) (hb : b < 2 ^ 63) (h0 : 0 < b) (hi : i < 128) :
    f_X12_divisor_L6 (f + 1) (lN a) (lN b) = f_X12_divisor_L6 f (lN b) (lN (a % b)) ∧ f_X11_commonDivisor_L9 (g + 1) (lN a) (lN b) (nI i) = f_X11_commonDivisor_L9 g (lN b) (lN (a % b)) (nI (i + 1)) := by
  have nz : ¬ lg_cmp (lN b) (0 : Int64) = 0 := fun h => by have := (lgz hb).mp h; omega
  have nz' : ¬ lN b = 0 := fun h => by have := (lnz hb).mp h; omega
  rw [f_X12_divisor_L6, f_X11_commonDivisor_L9, if_neg nz, if_neg nz, if_pos nz', if_pos nz', if_neg (by rw [show (128 : Int32) = nI 128 from rfl, nI_leI (by omega) (by omega)]; omega), bd_eq, bd_eq, pk_lRem ha h0 hb, nI_1]
  exact ⟨rfl, rfl⟩
theorem div_0 {a i f g : Nat} (hi : i < 128) :
    f_X12_divisor_L6 (f + 1) (lN a) (lN 0) = some (lN a) ∧ f_X11_commonDivisor_L9 (g + 1) (lN a) (lN 0) (nI i) = some (if lN a < (1 : Int64) then (1 : Int64) else lN a) := by
  have nz : lg_cmp (lN 0) (0 : Int64) = 0 := (lgz (by omega)).mpr rfl
  rw [f_X12_divisor_L6, f_X11_commonDivisor_L9, if_pos nz, if_pos nz, if_neg (by rw [show (128 : Int32) = nI 128 from rfl, nI_leI (by omega) (by omega)]; omega)]
  exact ⟨rfl, rfl⟩
theorem div_L : ∀ (k a b i f g : Nat), b < 2 ^ k → a < 2 ^ 63 → k ≤ 62 → i + 2 * k ≤ 127 → 2 * k < f → 2 * k < g →
    f_X12_divisor_L6 f (lN a) (lN b) = some (lN (Nat.gcd a b)) ∧ f_X11_commonDivisor_L9 g (lN a) (lN b) (nI i) = some (if lN (Nat.gcd a b) < (1 : Int64) then (1 : Int64) else lN (Nat.gcd a b)) := by
  intro k
  induction k with
  | zero =>
    intro a b i f g hb ha hk hi hf hg
    obtain ⟨f, rfl⟩ : ∃ f', f = f' + 1 := ⟨f - 1, by omega⟩
    obtain ⟨g, rfl⟩ : ∃ g', g = g' + 1 := ⟨g - 1, by omega⟩
    have b0 : b = 0 := by rw [Nat.pow_zero] at hb; omega
    subst b0
    rw [Nat.gcd_zero_right]
    exact div_0 (by omega)
  | succ k ih =>
    intro a b i f g hb ha hk hi hf hg
    obtain ⟨f, rfl⟩ : ∃ f', f = f' + 1 + 1 := ⟨f - 2, by omega⟩
    obtain ⟨g, rfl⟩ : ∃ g', g = g' + 1 + 1 := ⟨g - 2, by omega⟩
    have p1 : 2 ^ (k + 1) ≤ 2 ^ 63 := Nat.pow_le_pow_right (by omega) (by omega)
    by_cases b0 : b = 0
    · subst b0
      rw [Nat.gcd_zero_right]
      exact div_0 (by omega)
    · have hb6 : b < 2 ^ 63 := by omega
      obtain ⟨s1, s2⟩ := div_1 (a := a) (b := b) (i := i) (f := f + 1) (g := g + 1) ha hb6 (by omega) (by omega)
      rw [s1, s2, ← gcd_step a b]
      have hr : a % b < b := Nat.mod_lt _ (by omega)
      by_cases r0 : a % b = 0
      · rw [r0, Nat.gcd_zero_right]
        exact div_0 (by omega)
      · obtain ⟨s3, s4⟩ := div_1 (a := b) (b := a % b) (i := i + 1) (f := f) (g := g) hb6 (by omega) (by omega) (by omega)
        rw [s3, s4, ← gcd_step b (a % b)]
        have h1 : b % (a % b) < a % b := Nat.mod_lt _ (by omega)
        have h2 : b % (a % b) + (a % b) ≤ b := by
          have e := Nat.div_add_mod b (a % b)
          have : 1 ≤ b / (a % b) := Nat.div_pos (by omega) (by omega)
          have : (a % b) * 1 ≤ (a % b) * (b / (a % b)) := Nat.mul_le_mul_left _ this
          omega
        exact ih (a % b) (b % (a % b)) (i + 1 + 1) f g (by rw [Nat.pow_succ] at hb; omega) (by omega) (by omega) (by omega) (by omega) (by omega)
theorem divC {a b : Nat} (ha : a < 2 ^ 63) (hb : b < 2 ^ 60) (h0 : 0 < b) : f_X12_divisor (lN a) (lN b) = some (lN (Nat.gcd a b)) ∧ f_X11_commonDivisor (lN a) (lN b) = some (lN (Nat.gcd a b)) := by
  unfold f_X12_divisor f_X11_commonDivisor
  obtain ⟨e1, e2⟩ := div_L 60 a b 0 fuel0 fuel0 hb ha (by omega) (by omega) (fuel_ge _ (by omega)) (fuel_ge _ (by omega))
  have g0 : 0 < Nat.gcd a b := Nat.gcd_pos_of_pos_right _ h0
  have gb : Nat.gcd a b ≤ b := Nat.gcd_le_right _ h0
  rw [if_neg (show ¬ lN (Nat.gcd a b) < (1 : Int64) by rw [show (1 : Int64) = lN 1 from rfl, pk_lLT (by omega) (by omega)]; omega)] at e2
  exact ⟨e1, e2⟩
theorem sheet_cases (x : Int32) : (f_X11_isSheet x = some 0 ∧ f_X12_isSheet x = some 0) ∨ (f_X11_isSheet x = some 1 ∧ f_X12_isSheet x = some 1 ∧ ∃ i, i < 4 ∧ x = nI i) := by
  unfold f_X11_isSheet f_X12_isSheet
  rw [in_same]
  rcases in_lh x (l := 0) (n := 3) (by omega) (by omega) with e | ⟨e, i, -, hi, rfl⟩
  · rw [show f_X11_within x (0 : Int32) (3 : Int32) = _ from e]
    exact Or.inl ⟨rfl, rfl⟩
  · rw [show f_X11_within (nI i) (0 : Int32) (3 : Int32) = _ from e]
    exact Or.inr ⟨rfl, rfl, i, by omega, rfl⟩
theorem sl_0 (g : Nat) (μ : Mem) (x2 : Int32) (x3 x5 : Int64) (x7 : Int32) : f_X11_slate_L57 (g + 1) μ (nI 0) x2 x3 x5 x7 = (if (9 : Int32) ≤ x7 then (f_X11_commonDivisor x3 x5).bind fun q7 => (if x2 = 0 then (if ¬ q7 = 0 then some (μ, (x3 / q7)) else none) else (if ¬ q7 = 0 then some (μ, (x5 / q7)) else none))
    else (if inb x7 24 = true then (f_X11_within (μ (78 + 0) x7.toNatClampNeg) (1 : Int32) (99 : Int32)).bind fun q12 => (if q12 = 0 then (f_X11_fails μ (6 : Int32)).bind fun q15 => some (q15.1, q15.2.toInt64)
      else f_X11_slate_L57 g μ (nI 0) x2 ((x3 * (μ (78 + 0) x7.toNatClampNeg).toInt64) + x5) (x5 * (μ (78 + 0) x7.toNatClampNeg).toInt64) (x7 + 1)) else none)) := by
  rw [f_X11_slate_L57]
  simp only [eq_true (show nI 0 = (0 : Int32) by decide), if_true, if_false, bd_eq]
theorem sl_1 (g : Nat) (μ : Mem) (x2 : Int32) (x3 x5 : Int64) (x7 : Int32) : f_X11_slate_L57 (g + 1) μ (nI 1) x2 x3 x5 x7 = (if (9 : Int32) ≤ x7 then (f_X11_commonDivisor x3 x5).bind fun q7 => (if x2 = 0 then (if ¬ q7 = 0 then some (μ, (x3 / q7)) else none) else (if ¬ q7 = 0 then some (μ, (x5 / q7)) else none))
    else (if inb x7 24 = true then (f_X11_within (μ (78 + 1) x7.toNatClampNeg) (1 : Int32) (99 : Int32)).bind fun q12 => (if q12 = 0 then (f_X11_fails μ (6 : Int32)).bind fun q15 => some (q15.1, q15.2.toInt64)
      else f_X11_slate_L57 g μ (nI 1) x2 ((x3 * (μ (78 + 1) x7.toNatClampNeg).toInt64) + x5) (x5 * (μ (78 + 1) x7.toNatClampNeg).toInt64) (x7 + 1)) else none)) := by
  rw [f_X11_slate_L57]
  simp only [eq_true (show nI 1 = (1 : Int32) by decide), eq_false (show ¬ nI 1 = (0 : Int32) by decide), if_true, if_false, bd_eq]
theorem sl_2 (g : Nat) (μ : Mem) (x2 : Int32) (x3 x5 : Int64) (x7 : Int32) : f_X11_slate_L57 (g + 1) μ (nI 2) x2 x3 x5 x7 = (if (9 : Int32) ≤ x7 then (f_X11_commonDivisor x3 x5).bind fun q7 => (if x2 = 0 then (if ¬ q7 = 0 then some (μ, (x3 / q7)) else none) else (if ¬ q7 = 0 then some (μ, (x5 / q7)) else none))
    else (if inb x7 24 = true then (f_X11_within (μ (78 + 2) x7.toNatClampNeg) (1 : Int32) (99 : Int32)).bind fun q12 => (if q12 = 0 then (f_X11_fails μ (6 : Int32)).bind fun q15 => some (q15.1, q15.2.toInt64)
      else f_X11_slate_L57 g μ (nI 2) x2 ((x3 * (μ (78 + 2) x7.toNatClampNeg).toInt64) + x5) (x5 * (μ (78 + 2) x7.toNatClampNeg).toInt64) (x7 + 1)) else none)) := by
  rw [f_X11_slate_L57]
  simp only [eq_true (show nI 2 = (2 : Int32) by decide), eq_false (show ¬ nI 2 = (0 : Int32) by decide), eq_false (show ¬ nI 2 = (1 : Int32) by decide), if_true, if_false, bd_eq]
theorem sl_3 (g : Nat) (μ : Mem) (x2 : Int32) (x3 x5 : Int64) (x7 : Int32) : f_X11_slate_L57 (g + 1) μ (nI 3) x2 x3 x5 x7 = (if (9 : Int32) ≤ x7 then (f_X11_commonDivisor x3 x5).bind fun q7 => (if x2 = 0 then (if ¬ q7 = 0 then some (μ, (x3 / q7)) else none) else (if ¬ q7 = 0 then some (μ, (x5 / q7)) else none))
    else (if inb x7 24 = true then (f_X11_within (μ (78 + 3) x7.toNatClampNeg) (1 : Int32) (99 : Int32)).bind fun q12 => (if q12 = 0 then (f_X11_fails μ (6 : Int32)).bind fun q15 => some (q15.1, q15.2.toInt64)
      else f_X11_slate_L57 g μ (nI 3) x2 ((x3 * (μ (78 + 3) x7.toNatClampNeg).toInt64) + x5) (x5 * (μ (78 + 3) x7.toNatClampNeg).toInt64) (x7 + 1)) else none)) := by
  rw [f_X11_slate_L57]
  simp only [eq_true (show nI 3 = (3 : Int32) by decide), eq_false (show ¬ nI 3 = (0 : Int32) by decide), eq_false (show ¬ nI 3 = (1 : Int32) by decide), eq_false (show ¬ nI 3 = (2 : Int32) by decide), if_true, if_false, bd_eq]
