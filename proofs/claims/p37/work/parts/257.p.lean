theorem toI_n (x : Int32) : x.toInt = if x.toBitVec.toNat < 2 ^ 31 then (x.toBitVec.toNat : Int) else (x.toBitVec.toNat : Int) - 2 ^ 32 := by
  show x.toBitVec.toInt = _
  rw [BitVec.toInt_eq_toNat_cond]
  have := x.toBitVec.isLt
  by_cases h : x.toBitVec.toNat < 2 ^ 31
  · rw [if_pos h, if_pos (by omega)]
  · rw [if_neg h, if_neg (by omega)]; rfl
theorem sm24 : ((24 : Int32).toBitVec.smod 32).toNat = 24 := by decide
theorem sm16 : ((16 : Int32).toBitVec.smod 32).toNat = 16 := by decide
theorem low8 (x : Int32) : (x <<< (24 : Int32)) >>> (24 : Int32) = x.toInt8.toInt32 := by
  have hx := x.toBitVec.isLt
  rw [← Int32.toInt_inj, pk_shr _ _ 24 sm24, toI_n (x <<< (24 : Int32)), pk_shl _ _ 24 sm24, Int8.toInt_toInt32, Int32.toInt_toInt8, toI_n x, Int.bmod_def, Int.shiftRight_eq_div_pow]
  split <;> split <;> split <;> omega
theorem low16 (x : Int32) : (x <<< (16 : Int32)) >>> (16 : Int32) = x.toInt16.toInt32 := by
  have hx := x.toBitVec.isLt
  rw [← Int32.toInt_inj, pk_shr _ _ 16 sm16, toI_n (x <<< (16 : Int32)), pk_shl _ _ 16 sm16, Int16.toInt_toInt32, Int32.toInt_toInt16, toI_n x, Int.bmod_def, Int.shiftRight_eq_div_pow]
  split <;> split <;> split <;> omega
theorem sm0 : ((0 : Int32).toBitVec.smod 32).toNat = 0 := by decide
theorem low32 (x : Int32) : (x <<< (0 : Int32)) >>> (0 : Int32) = x := by
  have hx := x.toBitVec.isLt
  rw [← Int32.toInt_inj, pk_shr _ _ 0 sm0, toI_n (x <<< (0 : Int32)), pk_shl _ _ 0 sm0, toI_n x, Int.shiftRight_eq_div_pow]
  split <;> split <;> omega
theorem low_k {w x : Int32} (hw : w = 0 ∨ w = 8 ∨ w = 16 ∨ w = 32) (h0 : ¬ w = 0) : f_X11_lowestBits w x = some ((x <<< (((32 : Int32) - w) &&& 31)) >>> (((32 : Int32) - w) &&& 31)) := by
  unfold f_X11_lowestBits
  rcases hw with e | e | e | e
  · exact absurd e h0
  · subst e
    rw [if_pos rfl, show ((32 : Int32) - 8) &&& 31 = 24 by decide, low8]
  · subst e
    rw [if_neg (show ¬ (16 : Int32) = 8 by decide), if_pos rfl, show ((32 : Int32) - 16) &&& 31 = 16 by decide, low16]
  · subst e
    rw [if_neg (show ¬ (32 : Int32) = 8 by decide), if_neg (show ¬ (32 : Int32) = 16 by decide), show ((32 : Int32) - 32) &&& 31 = 0 by decide, low32]
theorem put_n {μ ν : Mem} (h : Rel μ ν) {i j : Nat} (hi : i < 4) (hj : j < 24) (v : Int32) : Rel (upA μ (78 + i) (upd (μ (78 + i)) j v)) (upA ν 12 (upd (ν 12) (24 * i + j) v)) := by
  refine h.sheets (Off.upA (p78 hi)) (Off.upA (by decide)) ?_
  intro k hk
  obtain ⟨e82, ws, ⟨m, m24, e83, e11⟩, eq⟩ := h.sh k hk
  rw [upA_o _ _ (show 82 ≠ 78 + i by omega), upA_o _ _ (show 83 ≠ 78 + i by omega), upA_o _ _ (show (10 : Nat) ≠ 12 by decide), upA_o _ _ (show (11 : Nat) ≠ 12 by decide), upA_s]
  refine ⟨e82, ws, ⟨m, m24, e83, e11⟩, fun l hl => ?_⟩
  by_cases e : k = i
  · subst e
    rw [upA_s]
    by_cases f : l = j
    · subst f; rw [upd_s, upd_s]
    · rw [upd_o _ _ f, upd_o _ _ (by omega)]; exact eq l hl
  · rw [upA_o _ _ (show 78 + k ≠ 78 + i by omega), upd_o _ _ (by omega)]; exact eq l hl
theorem put_op {μ ν : Mem} (h : Rel μ ν) (x y v : Int32) : Sim RA (f_X11_put μ x y v) (f_X12_put ν x y v) := by
  have E1 := h.err (c := 1) (by omega)
  rcases sheet_cases x with ⟨e1, e2⟩ | ⟨e1, e2, i, hi, rfl⟩
  · unfold f_X11_put f_X12_put
    rw [e1, e2]
    exact E1
  · rw [pu_k hi]
    unfold f_X12_put
    obtain ⟨e82, ws, ⟨n, n24, e83, e11⟩, eq⟩ := h.sh i hi
    have i4' := in_k (show i < 4 from hi) (by omega)
    unfold f_X11_isMissing
    rw [e2, Option.bind_some, if_neg n1, if_pos i4', if_pos i4', cl_I (show i < 2 ^ 31 by omega), e82]
    by_cases hz : ν 10 i = 0
    · rw [if_pos hz, if_pos hz, Option.bind_some, if_neg n1]
      exact h.err (c := 2) (by omega)
    · rw [if_neg hz, if_neg hz, Option.bind_some, if_pos rfl, if_pos i4', in_same, show (μ, (0 : Int32)).1 83 i = nI n from e83, e11]
      have B : (f_X11_within y (0 : Int32) (nI n - 1) = some 0) ∨ (f_X11_within y (0 : Int32) (nI n - 1) = some 1 ∧ ∃ j, j < n ∧ y = nI j) := by
        by_cases n0 : n = 0
        · subst n0
          left
          unfold f_X11_within
          by_cases a : y < 0
          · rw [if_pos a]
          · rw [if_neg a, if_pos (Int32.lt_of_lt_of_le (show (nI 0 - 1 : Int32) < 0 by decide) (Int32.not_lt.mp a))]
        · rw [show (nI n - 1 : Int32) = nI (n - 1) from by rw [show (1 : Int32) = nI 1 from rfl, nI_subI (by omega)]]
          rcases in_lh y (l := 0) (n := n - 1) (by omega) (by omega) with e | ⟨e, j, -, hj, rfl⟩
          · exact Or.inl e
          · exact Or.inr ⟨e, j, by omega, rfl⟩
      rcases B with e | ⟨e, j, hj, rfl⟩
      · rw [e, Option.bind_some, Option.bind_some, if_pos rfl, if_pos rfl]
        exact E1
      · rw [e, Option.bind_some, Option.bind_some, if_neg n1, if_neg n1, show (μ, (0 : Int32)).1 82 i = ν 10 i from e82, low_k (e82 ▸ ws) hz, Option.bind_some, if_pos i4', bd_eq, if_pos (in_k (show j < 24 by omega) (by omega)), cl_I (show j < 2 ^ 31 by omega),
          show (24 : Int32) = nI 24 from rfl, nI_mulI, nI_add, if_pos (in_k (show 24 * i + j < 96 by omega) (by omega)), cl_I (show 24 * i + j < 2 ^ 31 by omega), bd_eq]
        exact Sim.pure ⟨rfl, put_n h hi (by omega) _⟩
