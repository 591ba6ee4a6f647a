/-- other sheets -/
theorem Rel.sheets {μ ν μ' ν' : Mem} (h : Rel μ ν) (o : Off [78, 79, 80, 81, 82, 83] μ μ') (o' : Off [10, 11, 12, 13] ν ν') (s : ShR μ' ν') : Rel μ' ν' := by
  have e1 : ν' 1 = ν 1 := o' 1 (by decide)
  refine ⟨h.nr.pl (fun j hj => o _ ?_) e1, ?_, ?_, ?_, s, ?_⟩
  · have : ∀ j, j < 22 → PN.getD j 0 ∉ [78, 79, 80, 81, 82, 83] := by decide
    exact this j hj
  · rw [o 1 (by decide), o 2 (by decide), o 3 (by decide), e1]; exact h.ex
  · rw [o 0 (by decide), o' 0 (by decide)]; exact h.im
  · rw [o 0 (by decide)]
    intro hz
    obtain ⟨⟨⟨q, hq, r⟩, z⟩, ex⟩ := h.kp hz
    have sj : sub PK μ' = sub PK μ := by
      funext j
      show μ' (PK.getD j 0) = μ (PK.getD j 0)
      refine o _ ?_
      by_cases hj : j < 22
      · have : ∀ j, j < 22 → PK.getD j 0 ∉ [78, 79, 80, 81, 82, 83] := by decide
        exact this j hj
      · rw [getD_big (by show 22 ≤ j; omega)]; decide
    refine ⟨⟨⟨q, hq, ?_⟩, ?_⟩, ?_⟩
    · rw [sj, o' 2 (by decide)]; exact r
    · rw [sj]; exact z
    · rw [o 4 (by decide), o 5 (by decide), o 6 (by decide), o' 2 (by decide)]; exact ex
  · rw [TrR, o 74 (by decide), o' 0 (by decide), o 7 (by decide), o 11 (by decide)]; exact h.tr
theorem sh_0 (g : Nat) (μ : Mem) (x4 : Int32) : f_X11_sheet_L75 (g + 1) μ (nI 0) x4 = (if (24 : Int32) ≤ x4 then some (μ, (1 : Int32)) else (if inb x4 24 = true then f_X11_sheet_L75 g (upA μ (78 + 0) (upd (μ (78 + 0)) x4.toNatClampNeg (0 : Int32))) (nI 0) (x4 + 1) else none)) := by
  rw [f_X11_sheet_L75]
  simp only [eq_true (show nI 0 = (0 : Int32) by decide), if_true, if_false, bd_eq]
theorem pu_0 (μ : Mem) (x2 x3 : Int32) : f_X11_put μ (nI 0) x2 x3 = (f_X11_isMissing μ (nI 0)).bind fun q2 => (if q2.2 = 0 then (f_X11_within x2 (0 : Int32) ((q2.1 83 0) - (1 : Int32))).bind fun q4 =>
    (if q4 = 0 then (f_X11_fails q2.1 (1 : Int32)).bind fun q21 => some (q21.1, q21.2) else (f_X11_lowestBits (q2.1 82 0) x3).bind fun q6 => (if inb x2 24 = true then some (upA q2.1 (78 + 0) (upd (q2.1 (78 + 0)) x2.toNatClampNeg q6), (1 : Int32)) else none))
      else (f_X11_fails q2.1 (2 : Int32)).bind fun q22 => some (q22.1, q22.2)) := by
  have c : (nI 0).toNatClampNeg = 0 := by decide
  have b : inb (nI 0) 4 = true := by decide
  have s : f_X11_isSheet (nI 0) = some 1 := by decide
  unfold f_X11_put
  rw [s, Option.bind_some, if_neg n1]
  simp only [eq_true (show nI 0 = (0 : Int32) by decide), c, b, if_true, if_false, bd_eq]
theorem sh_1 (g : Nat) (μ : Mem) (x4 : Int32) : f_X11_sheet_L75 (g + 1) μ (nI 1) x4 = (if (24 : Int32) ≤ x4 then some (μ, (1 : Int32)) else (if inb x4 24 = true then f_X11_sheet_L75 g (upA μ (78 + 1) (upd (μ (78 + 1)) x4.toNatClampNeg (0 : Int32))) (nI 1) (x4 + 1) else none)) := by
  rw [f_X11_sheet_L75]
  simp only [eq_true (show nI 1 = (1 : Int32) by decide), eq_false (show ¬ nI 1 = (0 : Int32) by decide), if_true, if_false, bd_eq]
theorem pu_1 (μ : Mem) (x2 x3 : Int32) : f_X11_put μ (nI 1) x2 x3 = (f_X11_isMissing μ (nI 1)).bind fun q2 => (if q2.2 = 0 then (f_X11_within x2 (0 : Int32) ((q2.1 83 1) - (1 : Int32))).bind fun q4 =>
    (if q4 = 0 then (f_X11_fails q2.1 (1 : Int32)).bind fun q21 => some (q21.1, q21.2) else (f_X11_lowestBits (q2.1 82 1) x3).bind fun q6 => (if inb x2 24 = true then some (upA q2.1 (78 + 1) (upd (q2.1 (78 + 1)) x2.toNatClampNeg q6), (1 : Int32)) else none))
      else (f_X11_fails q2.1 (2 : Int32)).bind fun q22 => some (q22.1, q22.2)) := by
  have c : (nI 1).toNatClampNeg = 1 := by decide
  have b : inb (nI 1) 4 = true := by decide
  have s : f_X11_isSheet (nI 1) = some 1 := by decide
  unfold f_X11_put
  rw [s, Option.bind_some, if_neg n1]
  simp only [eq_true (show nI 1 = (1 : Int32) by decide), eq_false (show ¬ nI 1 = (0 : Int32) by decide), c, b, if_true, if_false, bd_eq]
theorem sh_2 (g : Nat) (μ : Mem) (x4 : Int32) : f_X11_sheet_L75 (g + 1) μ (nI 2) x4 = (if (24 : Int32) ≤ x4 then some (μ, (1 : Int32)) else (if inb x4 24 = true then f_X11_sheet_L75 g (upA μ (78 + 2) (upd (μ (78 + 2)) x4.toNatClampNeg (0 : Int32))) (nI 2) (x4 + 1) else none)) := by
  rw [f_X11_sheet_L75]
  simp only [eq_true (show nI 2 = (2 : Int32) by decide), eq_false (show ¬ nI 2 = (0 : Int32) by decide), eq_false (show ¬ nI 2 = (1 : Int32) by decide), if_true, if_false, bd_eq]
theorem pu_2 (μ : Mem) (x2 x3 : Int32) : f_X11_put μ (nI 2) x2 x3 = (f_X11_isMissing μ (nI 2)).bind fun q2 => (if q2.2 = 0 then (f_X11_within x2 (0 : Int32) ((q2.1 83 2) - (1 : Int32))).bind fun q4 =>
    (if q4 = 0 then (f_X11_fails q2.1 (1 : Int32)).bind fun q21 => some (q21.1, q21.2) else (f_X11_lowestBits (q2.1 82 2) x3).bind fun q6 => (if inb x2 24 = true then some (upA q2.1 (78 + 2) (upd (q2.1 (78 + 2)) x2.toNatClampNeg q6), (1 : Int32)) else none))
      else (f_X11_fails q2.1 (2 : Int32)).bind fun q22 => some (q22.1, q22.2)) := by
  have c : (nI 2).toNatClampNeg = 2 := by decide
  have b : inb (nI 2) 4 = true := by decide
  have s : f_X11_isSheet (nI 2) = some 1 := by decide
  unfold f_X11_put
  rw [s, Option.bind_some, if_neg n1]
  simp only [eq_true (show nI 2 = (2 : Int32) by decide), eq_false (show ¬ nI 2 = (0 : Int32) by decide), eq_false (show ¬ nI 2 = (1 : Int32) by decide), c, b, if_true, if_false, bd_eq]
theorem sh_3 (g : Nat) (μ : Mem) (x4 : Int32) : f_X11_sheet_L75 (g + 1) μ (nI 3) x4 = (if (24 : Int32) ≤ x4 then some (μ, (1 : Int32)) else (if inb x4 24 = true then f_X11_sheet_L75 g (upA μ (78 + 3) (upd (μ (78 + 3)) x4.toNatClampNeg (0 : Int32))) (nI 3) (x4 + 1) else none)) := by
  rw [f_X11_sheet_L75]
  simp only [eq_true (show nI 3 = (3 : Int32) by decide), eq_false (show ¬ nI 3 = (0 : Int32) by decide), eq_false (show ¬ nI 3 = (1 : Int32) by decide), eq_false (show ¬ nI 3 = (2 : Int32) by decide), if_true, if_false, bd_eq]
theorem pu_3 (μ : Mem) (x2 x3 : Int32) : f_X11_put μ (nI 3) x2 x3 = (f_X11_isMissing μ (nI 3)).bind fun q2 => (if q2.2 = 0 then (f_X11_within x2 (0 : Int32) ((q2.1 83 3) - (1 : Int32))).bind fun q4 =>
    (if q4 = 0 then (f_X11_fails q2.1 (1 : Int32)).bind fun q21 => some (q21.1, q21.2) else (f_X11_lowestBits (q2.1 82 3) x3).bind fun q6 => (if inb x2 24 = true then some (upA q2.1 (78 + 3) (upd (q2.1 (78 + 3)) x2.toNatClampNeg q6), (1 : Int32)) else none))
      else (f_X11_fails q2.1 (2 : Int32)).bind fun q22 => some (q22.1, q22.2)) := by
  have c : (nI 3).toNatClampNeg = 3 := by decide
  have b : inb (nI 3) 4 = true := by decide
  have s : f_X11_isSheet (nI 3) = some 1 := by decide
  unfold f_X11_put
  rw [s, Option.bind_some, if_neg n1]
  simp only [eq_true (show nI 3 = (3 : Int32) by decide), eq_false (show ¬ nI 3 = (0 : Int32) by decide), eq_false (show ¬ nI 3 = (1 : Int32) by decide), eq_false (show ¬ nI 3 = (2 : Int32) by decide), c, b, if_true, if_false, bd_eq]
theorem sh_k {i : Nat} (hi : i < 4) (g : Nat) (μ : Mem) (x4 : Int32) : f_X11_sheet_L75 (g + 1) μ (nI i) x4 = (if (24 : Int32) ≤ x4 then some (μ, (1 : Int32)) else (if inb x4 24 = true then f_X11_sheet_L75 g (upA μ (78 + i) (upd (μ (78 + i)) x4.toNatClampNeg (0 : Int32))) (nI i) (x4 + 1) else none)) := by
  have : i = 0 ∨ i = 1 ∨ i = 2 ∨ i = 3 := by omega
  rcases this with e | e | e | e <;> subst e
  · exact sh_0 g μ x4
  · exact sh_1 g μ x4
  · exact sh_2 g μ x4
  · exact sh_3 g μ x4
theorem pu_k {i : Nat} (hi : i < 4) (μ : Mem) (x2 x3 : Int32) : f_X11_put μ (nI i) x2 x3 = (f_X11_isMissing μ (nI i)).bind fun q2 => (if q2.2 = 0 then (f_X11_within x2 (0 : Int32) ((q2.1 83 i) - (1 : Int32))).bind fun q4 =>
    (if q4 = 0 then (f_X11_fails q2.1 (1 : Int32)).bind fun q21 => some (q21.1, q21.2) else (f_X11_lowestBits (q2.1 82 i) x3).bind fun q6 => (if inb x2 24 = true then some (upA q2.1 (78 + i) (upd (q2.1 (78 + i)) x2.toNatClampNeg q6), (1 : Int32)) else none))
      else (f_X11_fails q2.1 (2 : Int32)).bind fun q22 => some (q22.1, q22.2)) := by
  have : i = 0 ∨ i = 1 ∨ i = 2 ∨ i = 3 := by omega
  rcases this with e | e | e | e <;> subst e
  · exact pu_0 μ x2 x3
  · exact pu_1 μ x2 x3
  · exact pu_2 μ x2 x3
  · exact pu_3 μ x2 x3
theorem zeroC {i : Nat} (hi : i < 4) : ∀ (r x : Nat) (μ : Mem) (f : Nat), x + r = 24 → r < f → f_X11_sheet_L75 f μ (nI i) (nI x) = some (upA μ (78 + i) (fun j => if x ≤ j ∧ j < 24 then 0 else μ (78 + i) j), 1) := by
  intro r
  induction r with
  | zero =>
    intro x μ f hx hf
    obtain ⟨f, rfl⟩ : ∃ f', f = f' + 1 := ⟨f - 1, by omega⟩
    have e : (24 : Int32) ≤ nI x := by rw [show (24 : Int32) = nI 24 from rfl, nI_leI (by omega) (by omega)]; omega
    rw [sh_k hi, if_pos e]
    refine congrArg some (congrArg (fun m => (m, (1 : Int32))) (funext fun a => ?_))
    by_cases h : a = 78 + i
    · subst h; rw [upA_s]; funext j; rw [if_neg (by omega)]
    · rw [upA_o _ _ h]
  | succ r ih =>
    intro x μ f hx hf
    obtain ⟨f, rfl⟩ : ∃ f', f = f' + 1 := ⟨f - 1, by omega⟩
    have e : ¬ (24 : Int32) ≤ nI x := by rw [show (24 : Int32) = nI 24 from rfl, nI_leI (by omega) (by omega)]; omega
    rw [sh_k hi, if_neg e, if_pos (in_k (show x < 24 by omega) (by omega)), cl_I (by omega), nI_1, ih (x + 1) _ f (by omega) (by omega), upA_2, upA_s]
    refine congrArg some (congrArg (fun m => (m, (1 : Int32))) (congrArg (upA μ (78 + i)) (funext fun j => ?_)))
    by_cases hj : j = x
    · subst hj; rw [upd_s, if_neg (by omega), if_pos (by omega)]
    · rw [upd_o _ _ hj]
      by_cases h2 : x ≤ j ∧ j < 24
      · rw [if_pos (by omega), if_pos h2]
      · rw [if_neg (by omega), if_neg h2]
theorem zeroR {i : Nat} (hi : i < 4) : ∀ (r x : Nat) (ν : Mem) (f : Nat), x + r = 24 → r < f → f_X12_sheet_L90 f ν (nI i) (nI x) = some (upA ν 12 (fun j => if 24 * i + x ≤ j ∧ j < 24 * i + 24 then 0 else ν 12 j), 1) := by
  intro r
  induction r with
  | zero =>
    intro x ν f hx hf
    obtain ⟨f, rfl⟩ : ∃ f', f = f' + 1 := ⟨f - 1, by omega⟩
    have e : (24 : Int32) ≤ nI x := by rw [show (24 : Int32) = nI 24 from rfl, nI_leI (by omega) (by omega)]; omega
    rw [f_X12_sheet_L90, if_pos e]
    refine congrArg some (congrArg (fun m => (m, (1 : Int32))) (funext fun a => ?_))
    by_cases h : a = 12
    · subst h; rw [upA_s]; funext j; rw [if_neg (by omega)]
    · rw [upA_o _ _ h]
  | succ r ih =>
    intro x ν f hx hf
    obtain ⟨f, rfl⟩ : ∃ f', f = f' + 1 := ⟨f - 1, by omega⟩
    have e : ¬ (24 : Int32) ≤ nI x := by rw [show (24 : Int32) = nI 24 from rfl, nI_leI (by omega) (by omega)]; omega
    rw [f_X12_sheet_L90, if_neg e, show (24 : Int32) = nI 24 from rfl, nI_mulI, nI_add, if_pos (in_k (show 24 * i + x < 96 by omega) (by omega)), cl_I (by omega), bd_eq, nI_1, ih (x + 1) _ f (by omega) (by omega), upA_2, upA_s]
    refine congrArg some (congrArg (fun m => (m, (1 : Int32))) (congrArg (upA ν 12) (funext fun j => ?_)))
    by_cases hj : j = 24 * i + x
    · subst hj; rw [upd_s, if_neg (by omega), if_pos (by omega)]
    · rw [upd_o _ _ hj]
      by_cases h2 : 24 * i + x ≤ j ∧ j < 24 * i + 24
      · rw [if_pos (by omega), if_pos h2]
      · rw [if_neg (by omega), if_neg h2]
theorem p78 {i : Nat} (hi : i < 4) : 78 + i ∈ [78, 79, 80, 81, 82, 83] := by
  have : i = 0 ∨ i = 1 ∨ i = 2 ∨ i = 3 := by omega
  rcases this with e | e | e | e <;> subst e <;> decide
/-- a sheet laid anew: w bits, n numbers -/
theorem sheet_new {μ ν : Mem} (h : Rel μ ν) {i n : Nat} (hi : i < 4) (hn : n ≤ 24) {w : Int32} (hw : w = 0 ∨ w = 8 ∨ w = 16 ∨ w = 32) :
    ∃ μ' ν', f_X11_sheet_L75 fuel0 (upA (upA μ 82 (upd (μ 82) i w)) 83 (upd ((upA μ 82 (upd (μ 82) i w)) 83) i (nI n))) (nI i) (0 : Int32) = some (μ', 1) ∧
      f_X12_sheet_L90 fuel0 (upA (upA ν 10 (upd (ν 10) i w)) 11 (upd ((upA ν 10 (upd (ν 10) i w)) 11) i (nI n))) (nI i) (0 : Int32) = some (ν', 1) ∧ Rel μ' ν' := by
  refine ⟨_, _, zeroC hi 24 0 _ fuel0 (by omega) (fuel_ge 24 (by omega)), zeroR hi 24 0 _ fuel0 (by omega) (fuel_ge 24 (by omega)), h.sheets ?_ ?_ ?_⟩
  · exact ((Off.upA (by decide)).trans (Off.upA (by decide))).trans (Off.upA (p78 hi))
  · exact ((Off.upA (by decide)).trans (Off.upA (by decide))).trans (Off.upA (by decide))
  · intro j hj
    obtain ⟨e82, ws, ⟨m, m24, e83, e11⟩, eq⟩ := h.sh j hj
    rw [upA_o _ _ (show 82 ≠ 78 + i by omega), upA_o _ _ (show (82 : Nat) ≠ 83 by decide), upA_s, upA_o _ _ (show (10 : Nat) ≠ 12 by decide), upA_o _ _ (show (10 : Nat) ≠ 11 by decide), upA_s,
      upA_o _ _ (show 83 ≠ 78 + i by omega), upA_s, upA_o _ _ (show (11 : Nat) ≠ 12 by decide), upA_s, upA_o _ _ (show (83 : Nat) ≠ 82 by decide), upA_o _ _ (show (11 : Nat) ≠ 10 by decide), upA_s]
    by_cases e : j = i
    · subst e
      rw [upd_s, upd_s, upd_s, upd_s]
      refine ⟨rfl, hw, ⟨n, hn, rfl, rfl⟩, fun k hk => ?_⟩
      rw [upA_s, if_pos ⟨by omega, hk⟩, if_pos (by omega)]
    · rw [upd_o _ _ e, upd_o _ _ e, upd_o _ _ e, upd_o _ _ e]
      refine ⟨e82, ws, ⟨m, m24, e83, e11⟩, fun k hk => ?_⟩
      rw [upA_o _ _ (show 78 + j ≠ 78 + i by omega), upA_o _ _ (show 78 + j ≠ 83 by omega), upA_o _ _ (show 78 + j ≠ 82 by omega), if_neg (by omega), upA_o _ _ (show (12 : Nat) ≠ 11 by decide), upA_o _ _ (show (12 : Nat) ≠ 10 by decide)]
      exact eq k hk
theorem sheet_op {μ ν : Mem} (h : Rel μ ν) (x y v : Int32) : Sim RA (f_X11_sheet μ x y v) (f_X12_sheet ν x y v) := by
  unfold f_X11_sheet f_X12_sheet
  rcases sheet_cases x with ⟨e1, e2⟩ | ⟨e1, e2, i, hi, rfl⟩
  · rw [e1, e2]
    exact h.err (c := 1) (by omega)
  · rw [e1, e2]
    rw [Option.bind_some, Option.bind_some, if_neg n1, if_neg n1]
    have i4' := in_k (show i < 4 from hi) (by omega)
    have E1 := h.err (c := 1) (by omega)
    have E3 := h.err (c := 3) (by omega)
    unfold f_X11_isWidth
    by_cases w0 : y = 0
    · rw [if_pos w0, if_pos w0, Option.bind_some, if_neg n1, if_pos w0]
      unfold f_X11_sheet_L34 f_X12_sheet_L35 f_X12_sheet_L49
      rw [if_pos w0, if_pos w0, if_pos w0]
      unfold f_X11_sheet_L50 f_X12_sheet_L65
      rw [if_pos i4', if_pos i4']
      simp only [bd_eq]
      rw [if_pos w0, if_pos w0, if_pos i4', if_pos i4', cl_I (show i < 2 ^ 31 by omega)]
      obtain ⟨μ', ν', m1, m2, m3⟩ := sheet_new h hi (n := 0) (by omega) (Or.inl w0)
      rw [show (upd ((upA μ 82 (upd (μ 82) i y)) 83) i (0 : Int32)) = upd ((upA μ 82 (upd (μ 82) i y)) 83) i (nI 0) from rfl, m1,
        show (upd ((upA ν 10 (upd (ν 10) i y)) 11) i (0 : Int32)) = upd ((upA ν 10 (upd (ν 10) i y)) 11) i (nI 0) from rfl, m2]
      exact Sim.pure ⟨rfl, m3⟩
    · have rest : (y = 0 ∨ y = 8 ∨ y = 16 ∨ y = 32) → Sim RA (if 0 ≤ v then f_X11_sheet_L34 μ (nI i) y v else (f_X11_fails μ (3 : Int32)).bind fun q19 => some (q19.1, q19.2)) (f_X12_sheet_L35 ν (nI i) y v) := by
        intro hw
        unfold f_X11_sheet_L34 f_X12_sheet_L35 f_X12_sheet_L49
        rw [if_neg w0, if_neg w0, if_neg w0]
        by_cases h0 : 0 ≤ v
        · rw [if_pos h0, if_pos h0]
          by_cases h24 : v ≤ (24 : Int32)
          · rw [if_pos h24, if_pos h24]
            obtain ⟨n, hn, rfl⟩ := nI_of2 (M := 24) (n := 24) (by decide) (Int32.not_lt.mpr h0) h24
            unfold f_X11_sheet_L50 f_X12_sheet_L65
            rw [if_pos i4', if_pos i4']
            simp only [bd_eq]
            rw [if_neg w0, if_neg w0, if_pos i4', if_pos i4', cl_I (show i < 2 ^ 31 by omega)]
            obtain ⟨μ', ν', m1, m2, m3⟩ := sheet_new h hi hn hw
            rw [m1, m2]
            exact Sim.pure ⟨rfl, m3⟩
          · rw [if_neg h24, if_neg h24]; exact E1
        · rw [if_neg h0, if_neg h0]; exact E3
      rw [if_neg w0, if_neg w0]
      by_cases w8 : y = 8
      · rw [if_pos w8, if_pos w8, Option.bind_some, if_neg n1, if_neg w0]
        exact rest (Or.inr (Or.inl w8))
      · rw [if_neg w8, if_neg w8]
        by_cases w16 : y = 16
        · rw [if_pos w16, if_pos w16, Option.bind_some, if_neg n1, if_neg w0]
          exact rest (Or.inr (Or.inr (Or.inl w16)))
        · rw [if_neg w16, if_neg w16]
          by_cases w32 : y = 32
          · rw [if_pos w32, if_pos w32, Option.bind_some, if_neg n1, if_neg w0]
            exact rest (Or.inr (Or.inr (Or.inr w32)))
          · rw [if_neg w32, if_neg w32, Option.bind_some, if_pos rfl, if_neg w0]
            exact E1
