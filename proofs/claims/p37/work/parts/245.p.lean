/-! sets of standers as bits -/
def pc9 (x : Nat) : Nat := x % 2 + x / 2 % 2 + x / 4 % 2 + x / 8 % 2 + x / 16 % 2 + x / 32 % 2 + x / 64 % 2 + x / 128 % 2 + x / 256 % 2
theorem pcJ : ∀ x, x < 512 → f_J6_bitCount_0f7a4 (nI x) = some (nI (pc9 x)) := by decide +kernel
theorem drop_dec : ∀ x, x < 512 → 0 < x → (nI x &&& (nI x - 1)) = nI (x &&& (x - 1)) ∧ x &&& (x - 1) < x ∧ pc9 (x &&& (x - 1)) + 1 = pc9 x := by decide +kernel
theorem bitsOf_L : ∀ (x c f : Nat), x < 512 → x < f → f_X12_bitsOf_L4 f (nI c) (nI x) = some (nI (c + pc9 x)) := by
  intro x
  induction x using Nat.strongRecOn with
  | _ x ih =>
    intro c f hx hf
    obtain ⟨f, rfl⟩ : ∃ f', f = f' + 1 := ⟨f - 1, by omega⟩
    rw [f_X12_bitsOf_L4]
    by_cases h0 : x = 0
    · subst h0
      rw [if_pos (show nI 0 = 0 from rfl)]
      show some (nI c) = some (nI (c + pc9 0))
      rw [show pc9 0 = 0 by decide]; rfl
    · rw [if_neg (show ¬ nI x = 0 by rw [show (0 : Int32) = nI 0 from rfl, nI_inj (by omega) (by omega)]; exact h0)]
      obtain ⟨d1, d2, d3⟩ := drop_dec x hx (by omega)
      simp only [bd]
      rw [d1, nI_1, ih _ d2 (c + 1) f (by omega) (by omega)]
      congr 2; omega
theorem bitsOf_k {x : Nat} (hx : x < 512) : f_X12_bitsOf (nI x) = some (nI (pc9 x)) := by
  unfold f_X12_bitsOf
  have := bitsOf_L x 0 fuel0 hx (fuel_ge x (by omega))
  rw [Nat.zero_add] at this
  exact this
/-- a set within another -/
def inS (x s : Nat) : Prop := x % 2 ≤ s % 2 ∧ x / 2 % 2 ≤ s / 2 % 2 ∧ x / 4 % 2 ≤ s / 4 % 2 ∧ x / 8 % 2 ≤ s / 8 % 2 ∧ x / 16 % 2 ≤ s / 16 % 2 ∧ x / 32 % 2 ≤ s / 32 % 2 ∧ x / 64 % 2 ≤ s / 64 % 2 ∧
  x / 128 % 2 ≤ s / 128 % 2 ∧ x / 256 % 2 ≤ s / 256 % 2
theorem dig_dec : ∀ x, x < 512 → x = x % 2 + 2 * (x / 2 % 2) + 4 * (x / 4 % 2) + 8 * (x / 8 % 2) + 16 * (x / 16 % 2) + 32 * (x / 32 % 2) + 64 * (x / 64 % 2) + 128 * (x / 128 % 2) + 256 * (x / 256 % 2) := by decide +kernel
theorem sum_le {d0 d1 d2 d3 d4 d5 d6 d7 d8 e0 e1 e2 e3 e4 e5 e6 e7 e8 : Nat} (h0 : d0 ≤ e0) (h1 : d1 ≤ e1) (h2 : d2 ≤ e2) (h3 : d3 ≤ e3) (h4 : d4 ≤ e4) (h5 : d5 ≤ e5) (h6 : d6 ≤ e6) (h7 : d7 ≤ e7) (h8 : d8 ≤ e8) :
    d0 + d1 + d2 + d3 + d4 + d5 + d6 + d7 + d8 ≤ e0 + e1 + e2 + e3 + e4 + e5 + e6 + e7 + e8 :=
  Nat.add_le_add (Nat.add_le_add (Nat.add_le_add (Nat.add_le_add (Nat.add_le_add (Nat.add_le_add (Nat.add_le_add (Nat.add_le_add h0 h1) h2) h3) h4) h5) h6) h7) h8
theorem inS_le {x s : Nat} (hx : x < 512) (hs : s < 512) (h : inS x s) : x ≤ s := by
  obtain ⟨h0, h1, h2, h3, h4, h5, h6, h7, h8⟩ := h
  rw [dig_dec x hx, dig_dec s hs]
  exact sum_le h0 (Nat.mul_le_mul_left 2 h1) (Nat.mul_le_mul_left 4 h2) (Nat.mul_le_mul_left 8 h3) (Nat.mul_le_mul_left 16 h4) (Nat.mul_le_mul_left 32 h5) (Nat.mul_le_mul_left 64 h6) (Nat.mul_le_mul_left 128 h7) (Nat.mul_le_mul_left 256 h8)
theorem inS_pc {x s : Nat} (h : inS x s) : pc9 x ≤ pc9 s := by
  obtain ⟨h0, h1, h2, h3, h4, h5, h6, h7, h8⟩ := h
  exact sum_le h0 h1 h2 h3 h4 h5 h6 h7 h8
theorem sum_eq {d0 d1 d2 d3 d4 d5 d6 d7 d8 e0 e1 e2 e3 e4 e5 e6 e7 e8 : Nat} (h0 : d0 ≤ e0) (h1 : d1 ≤ e1) (h2 : d2 ≤ e2) (h3 : d3 ≤ e3) (h4 : d4 ≤ e4) (h5 : d5 ≤ e5) (h6 : d6 ≤ e6) (h7 : d7 ≤ e7) (h8 : d8 ≤ e8)
    (h : d0 + d1 + d2 + d3 + d4 + d5 + d6 + d7 + d8 = e0 + e1 + e2 + e3 + e4 + e5 + e6 + e7 + e8) : d0 = e0 ∧ d1 = e1 ∧ d2 = e2 ∧ d3 = e3 ∧ d4 = e4 ∧ d5 = e5 ∧ d6 = e6 ∧ d7 = e7 ∧ d8 = e8 := by
  refine ⟨?_, ?_, ?_, ?_, ?_, ?_, ?_, ?_, ?_⟩ <;> omega
theorem inS_eq {x s : Nat} (hx : x < 512) (hs : s < 512) (h : inS x s) (e : pc9 x = pc9 s) : x = s := by
  obtain ⟨h0, h1, h2, h3, h4, h5, h6, h7, h8⟩ := h
  obtain ⟨k0, k1, k2, k3, k4, k5, k6, k7, k8⟩ := sum_eq h0 h1 h2 h3 h4 h5 h6 h7 h8 e
  rw [dig_dec x hx, dig_dec s hs, k0, k1, k2, k3, k4, k5, k6, k7, k8]
theorem inS_bit {x s : Nat} (h : ∀ i, i < 9 → x.testBit i = true → s.testBit i = true) : inS x s := by
  have k : ∀ i, i < 9 → x / 2 ^ i % 2 ≤ s / 2 ^ i % 2 := by
    intro i hi
    have := h i hi
    rw [Nat.testBit_eq_decide_div_mod_eq, Nat.testBit_eq_decide_div_mod_eq, decide_eq_true_eq, decide_eq_true_eq] at this
    omega
  have k0 := k 0 (by omega)
  rw [Nat.pow_zero, Nat.div_one, Nat.div_one] at k0
  exact ⟨k0, k 1 (by omega), k 2 (by omega), k 3 (by omega), k 4 (by omega), k 5 (by omega), k 6 (by omega), k 7 (by omega), k 8 (by omega)⟩
theorem nI_bv (x : Nat) : (nI x).toBitVec = BitVec.ofNat 32 x := rfl
theorem m1_bv : (-1 : Int32).toBitVec = BitVec.allOnes 32 := by decide
theorem bit_at (x s : Nat) {i : Nat} (hi : i < 32) : (nI x &&& (nI s ^^^ (-1 : Int32))).toBitVec.getLsbD i = (x.testBit i && !s.testBit i) := by
  rw [Int32.toBitVec_and, Int32.toBitVec_xor, nI_bv, nI_bv, m1_bv, BitVec.getLsbD_and, BitVec.getLsbD_xor, BitVec.getLsbD_ofNat, BitVec.getLsbD_ofNat, BitVec.getLsbD_allOnes, decide_eq_true hi]
  cases x.testBit i <;> cases s.testBit i <;> rfl
theorem inS_k {x s : Nat} (h : (nI x &&& (nI s ^^^ (-1 : Int32))) = 0) : inS x s := by
  refine inS_bit (fun i hi hx => ?_)
  have e := bit_at x s (i := i) (by omega)
  rw [h, hx, show (0 : Int32).toBitVec.getLsbD i = false from BitVec.getLsbD_zero] at e
  cases hs : s.testBit i with
  | true => rfl
  | false => rw [hs] at e; exact absurd e (by decide)
theorem inS_self (s : Nat) : (nI s &&& (nI s ^^^ (-1 : Int32))) = 0 := by
  rw [← Int32.toBitVec_inj]
  apply BitVec.eq_of_getLsbD_eq
  intro i hi
  rw [bit_at s s hi, show (0 : Int32).toBitVec.getLsbD i = false from BitVec.getLsbD_zero]
  cases s.testBit i <;> rfl
