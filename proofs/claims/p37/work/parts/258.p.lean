theorem mv_00 (μ : Mem) (x2 x4 x5 : Int32) : f_X11_move μ (nI 0) x2 (nI 0) x4 x5 = (f_X11_isMissing μ (nI 0)).bind fun q4 => (if q4.2 = 0 then (f_X11_isMissing q4.1 (nI 0)).bind fun q6 => (if q6.2 = 0 then (if q6.1 82 0 = q6.1 82 0 then (f_X11_stand q6.1 (nI 0) x2 x5).bind fun q9 =>
    (if q9.2 = 0 then (f_X11_fails q9.1 (1 : Int32)).bind fun q10 => some (q10.1, q10.2) else (f_X11_stand q9.1 (nI 0) x4 x5).bind fun q11 => (if q11.2 = 0 then (f_X11_fails q11.1 (1 : Int32)).bind fun q44 => some (q44.1, q44.2) else
      (if inc x2 x4 x5 24 24 = true then some (upA q11.1 (78 + 0) (va_cpy (q11.1 (78 + 0)) (q11.1 (78 + 0)) x2.toNatClampNeg x4.toNatClampNeg x5.toNatClampNeg), x5) else none)))
    else (f_X11_fails q6.1 (5 : Int32)).bind fun q45 => some (q45.1, q45.2)) else (f_X11_fails q6.1 (2 : Int32)).bind fun q46 => some (q46.1, q46.2)) else (f_X11_fails q4.1 (2 : Int32)).bind fun q5 => some (q5.1, q5.2)) := by
  have s1 : f_X11_isSheet (nI 0) = some 1 := by decide
  have s2 : f_X11_isSheet (nI 0) = some 1 := by decide
  have c1 : (nI 0).toNatClampNeg = 0 := by decide
  have c2 : (nI 0).toNatClampNeg = 0 := by decide
  have b1 : inb (nI 0) 4 = true := by decide
  have b2 : inb (nI 0) 4 = true := by decide
  unfold f_X11_move
  rw [s1, Option.bind_some, if_neg n1, Option.bind_some, if_neg n1]
  simp only [eq_true (show nI 0 = (0 : Int32) by decide), c1, c2, b1, b2, if_true, if_false, bd_eq]
theorem mv_01 (μ : Mem) (x2 x4 x5 : Int32) : f_X11_move μ (nI 0) x2 (nI 1) x4 x5 = (f_X11_isMissing μ (nI 0)).bind fun q4 => (if q4.2 = 0 then (f_X11_isMissing q4.1 (nI 1)).bind fun q6 => (if q6.2 = 0 then (if q6.1 82 0 = q6.1 82 1 then (f_X11_stand q6.1 (nI 0) x2 x5).bind fun q9 =>
    (if q9.2 = 0 then (f_X11_fails q9.1 (1 : Int32)).bind fun q10 => some (q10.1, q10.2) else (f_X11_stand q9.1 (nI 1) x4 x5).bind fun q11 => (if q11.2 = 0 then (f_X11_fails q11.1 (1 : Int32)).bind fun q44 => some (q44.1, q44.2) else
      (if inc x2 x4 x5 24 24 = true then some (upA q11.1 (78 + 1) (va_cpy (q11.1 (78 + 0)) (q11.1 (78 + 1)) x2.toNatClampNeg x4.toNatClampNeg x5.toNatClampNeg), x5) else none)))
    else (f_X11_fails q6.1 (5 : Int32)).bind fun q45 => some (q45.1, q45.2)) else (f_X11_fails q6.1 (2 : Int32)).bind fun q46 => some (q46.1, q46.2)) else (f_X11_fails q4.1 (2 : Int32)).bind fun q5 => some (q5.1, q5.2)) := by
  have s1 : f_X11_isSheet (nI 0) = some 1 := by decide
  have s2 : f_X11_isSheet (nI 1) = some 1 := by decide
  have c1 : (nI 0).toNatClampNeg = 0 := by decide
  have c2 : (nI 1).toNatClampNeg = 1 := by decide
  have b1 : inb (nI 0) 4 = true := by decide
  have b2 : inb (nI 1) 4 = true := by decide
  unfold f_X11_move
  rw [s1, Option.bind_some, if_neg n1, s2, Option.bind_some, if_neg n1]
  simp only [eq_true (show nI 0 = (0 : Int32) by decide), eq_true (show nI 1 = (1 : Int32) by decide), eq_false (show ¬ nI 1 = (0 : Int32) by decide), c1, c2, b1, b2, if_true, if_false, bd_eq]
theorem mv_02 (μ : Mem) (x2 x4 x5 : Int32) : f_X11_move μ (nI 0) x2 (nI 2) x4 x5 = (f_X11_isMissing μ (nI 0)).bind fun q4 => (if q4.2 = 0 then (f_X11_isMissing q4.1 (nI 2)).bind fun q6 => (if q6.2 = 0 then (if q6.1 82 0 = q6.1 82 2 then (f_X11_stand q6.1 (nI 0) x2 x5).bind fun q9 =>
    (if q9.2 = 0 then (f_X11_fails q9.1 (1 : Int32)).bind fun q10 => some (q10.1, q10.2) else (f_X11_stand q9.1 (nI 2) x4 x5).bind fun q11 => (if q11.2 = 0 then (f_X11_fails q11.1 (1 : Int32)).bind fun q44 => some (q44.1, q44.2) else
      (if inc x2 x4 x5 24 24 = true then some (upA q11.1 (78 + 2) (va_cpy (q11.1 (78 + 0)) (q11.1 (78 + 2)) x2.toNatClampNeg x4.toNatClampNeg x5.toNatClampNeg), x5) else none)))
    else (f_X11_fails q6.1 (5 : Int32)).bind fun q45 => some (q45.1, q45.2)) else (f_X11_fails q6.1 (2 : Int32)).bind fun q46 => some (q46.1, q46.2)) else (f_X11_fails q4.1 (2 : Int32)).bind fun q5 => some (q5.1, q5.2)) := by
  have s1 : f_X11_isSheet (nI 0) = some 1 := by decide
  have s2 : f_X11_isSheet (nI 2) = some 1 := by decide
  have c1 : (nI 0).toNatClampNeg = 0 := by decide
  have c2 : (nI 2).toNatClampNeg = 2 := by decide
  have b1 : inb (nI 0) 4 = true := by decide
  have b2 : inb (nI 2) 4 = true := by decide
  unfold f_X11_move
  rw [s1, Option.bind_some, if_neg n1, s2, Option.bind_some, if_neg n1]
  simp only [eq_true (show nI 0 = (0 : Int32) by decide), eq_true (show nI 2 = (2 : Int32) by decide), eq_false (show ¬ nI 2 = (0 : Int32) by decide), eq_false (show ¬ nI 2 = (1 : Int32) by decide), c1, c2, b1, b2, if_true, if_false, bd_eq]
theorem mv_03 (μ : Mem) (x2 x4 x5 : Int32) : f_X11_move μ (nI 0) x2 (nI 3) x4 x5 = (f_X11_isMissing μ (nI 0)).bind fun q4 => (if q4.2 = 0 then (f_X11_isMissing q4.1 (nI 3)).bind fun q6 => (if q6.2 = 0 then (if q6.1 82 0 = q6.1 82 3 then (f_X11_stand q6.1 (nI 0) x2 x5).bind fun q9 =>
    (if q9.2 = 0 then (f_X11_fails q9.1 (1 : Int32)).bind fun q10 => some (q10.1, q10.2) else (f_X11_stand q9.1 (nI 3) x4 x5).bind fun q11 => (if q11.2 = 0 then (f_X11_fails q11.1 (1 : Int32)).bind fun q44 => some (q44.1, q44.2) else
      (if inc x2 x4 x5 24 24 = true then some (upA q11.1 (78 + 3) (va_cpy (q11.1 (78 + 0)) (q11.1 (78 + 3)) x2.toNatClampNeg x4.toNatClampNeg x5.toNatClampNeg), x5) else none)))
    else (f_X11_fails q6.1 (5 : Int32)).bind fun q45 => some (q45.1, q45.2)) else (f_X11_fails q6.1 (2 : Int32)).bind fun q46 => some (q46.1, q46.2)) else (f_X11_fails q4.1 (2 : Int32)).bind fun q5 => some (q5.1, q5.2)) := by
  have s1 : f_X11_isSheet (nI 0) = some 1 := by decide
  have s2 : f_X11_isSheet (nI 3) = some 1 := by decide
  have c1 : (nI 0).toNatClampNeg = 0 := by decide
  have c2 : (nI 3).toNatClampNeg = 3 := by decide
  have b1 : inb (nI 0) 4 = true := by decide
  have b2 : inb (nI 3) 4 = true := by decide
  unfold f_X11_move
  rw [s1, Option.bind_some, if_neg n1, s2, Option.bind_some, if_neg n1]
  simp only [eq_true (show nI 0 = (0 : Int32) by decide), eq_true (show nI 3 = (3 : Int32) by decide), eq_false (show ¬ nI 3 = (0 : Int32) by decide), eq_false (show ¬ nI 3 = (1 : Int32) by decide), eq_false (show ¬ nI 3 = (2 : Int32) by decide), c1, c2, b1, b2, if_true, if_false, bd_eq]
theorem mv_10 (μ : Mem) (x2 x4 x5 : Int32) : f_X11_move μ (nI 1) x2 (nI 0) x4 x5 = (f_X11_isMissing μ (nI 1)).bind fun q4 => (if q4.2 = 0 then (f_X11_isMissing q4.1 (nI 0)).bind fun q6 => (if q6.2 = 0 then (if q6.1 82 1 = q6.1 82 0 then (f_X11_stand q6.1 (nI 1) x2 x5).bind fun q9 =>
    (if q9.2 = 0 then (f_X11_fails q9.1 (1 : Int32)).bind fun q10 => some (q10.1, q10.2) else (f_X11_stand q9.1 (nI 0) x4 x5).bind fun q11 => (if q11.2 = 0 then (f_X11_fails q11.1 (1 : Int32)).bind fun q44 => some (q44.1, q44.2) else
      (if inc x2 x4 x5 24 24 = true then some (upA q11.1 (78 + 0) (va_cpy (q11.1 (78 + 1)) (q11.1 (78 + 0)) x2.toNatClampNeg x4.toNatClampNeg x5.toNatClampNeg), x5) else none)))
    else (f_X11_fails q6.1 (5 : Int32)).bind fun q45 => some (q45.1, q45.2)) else (f_X11_fails q6.1 (2 : Int32)).bind fun q46 => some (q46.1, q46.2)) else (f_X11_fails q4.1 (2 : Int32)).bind fun q5 => some (q5.1, q5.2)) := by
  have s1 : f_X11_isSheet (nI 1) = some 1 := by decide
  have s2 : f_X11_isSheet (nI 0) = some 1 := by decide
  have c1 : (nI 1).toNatClampNeg = 1 := by decide
  have c2 : (nI 0).toNatClampNeg = 0 := by decide
  have b1 : inb (nI 1) 4 = true := by decide
  have b2 : inb (nI 0) 4 = true := by decide
  unfold f_X11_move
  rw [s1, Option.bind_some, if_neg n1, s2, Option.bind_some, if_neg n1]
  simp only [eq_true (show nI 0 = (0 : Int32) by decide), eq_true (show nI 1 = (1 : Int32) by decide), eq_false (show ¬ nI 1 = (0 : Int32) by decide), c1, c2, b1, b2, if_true, if_false, bd_eq]
theorem mv_11 (μ : Mem) (x2 x4 x5 : Int32) : f_X11_move μ (nI 1) x2 (nI 1) x4 x5 = (f_X11_isMissing μ (nI 1)).bind fun q4 => (if q4.2 = 0 then (f_X11_isMissing q4.1 (nI 1)).bind fun q6 => (if q6.2 = 0 then (if q6.1 82 1 = q6.1 82 1 then (f_X11_stand q6.1 (nI 1) x2 x5).bind fun q9 =>
    (if q9.2 = 0 then (f_X11_fails q9.1 (1 : Int32)).bind fun q10 => some (q10.1, q10.2) else (f_X11_stand q9.1 (nI 1) x4 x5).bind fun q11 => (if q11.2 = 0 then (f_X11_fails q11.1 (1 : Int32)).bind fun q44 => some (q44.1, q44.2) else
      (if inc x2 x4 x5 24 24 = true then some (upA q11.1 (78 + 1) (va_cpy (q11.1 (78 + 1)) (q11.1 (78 + 1)) x2.toNatClampNeg x4.toNatClampNeg x5.toNatClampNeg), x5) else none)))
    else (f_X11_fails q6.1 (5 : Int32)).bind fun q45 => some (q45.1, q45.2)) else (f_X11_fails q6.1 (2 : Int32)).bind fun q46 => some (q46.1, q46.2)) else (f_X11_fails q4.1 (2 : Int32)).bind fun q5 => some (q5.1, q5.2)) := by
  have s1 : f_X11_isSheet (nI 1) = some 1 := by decide
  have s2 : f_X11_isSheet (nI 1) = some 1 := by decide
  have c1 : (nI 1).toNatClampNeg = 1 := by decide
  have c2 : (nI 1).toNatClampNeg = 1 := by decide
  have b1 : inb (nI 1) 4 = true := by decide
  have b2 : inb (nI 1) 4 = true := by decide
  unfold f_X11_move
  rw [s1, Option.bind_some, if_neg n1, Option.bind_some, if_neg n1]
  simp only [eq_true (show nI 1 = (1 : Int32) by decide), eq_false (show ¬ nI 1 = (0 : Int32) by decide), c1, c2, b1, b2, if_true, if_false, bd_eq]
theorem mv_12 (μ : Mem) (x2 x4 x5 : Int32) : f_X11_move μ (nI 1) x2 (nI 2) x4 x5 = (f_X11_isMissing μ (nI 1)).bind fun q4 => (if q4.2 = 0 then (f_X11_isMissing q4.1 (nI 2)).bind fun q6 => (if q6.2 = 0 then (if q6.1 82 1 = q6.1 82 2 then (f_X11_stand q6.1 (nI 1) x2 x5).bind fun q9 =>
    (if q9.2 = 0 then (f_X11_fails q9.1 (1 : Int32)).bind fun q10 => some (q10.1, q10.2) else (f_X11_stand q9.1 (nI 2) x4 x5).bind fun q11 => (if q11.2 = 0 then (f_X11_fails q11.1 (1 : Int32)).bind fun q44 => some (q44.1, q44.2) else
      (if inc x2 x4 x5 24 24 = true then some (upA q11.1 (78 + 2) (va_cpy (q11.1 (78 + 1)) (q11.1 (78 + 2)) x2.toNatClampNeg x4.toNatClampNeg x5.toNatClampNeg), x5) else none)))
    else (f_X11_fails q6.1 (5 : Int32)).bind fun q45 => some (q45.1, q45.2)) else (f_X11_fails q6.1 (2 : Int32)).bind fun q46 => some (q46.1, q46.2)) else (f_X11_fails q4.1 (2 : Int32)).bind fun q5 => some (q5.1, q5.2)) := by
  have s1 : f_X11_isSheet (nI 1) = some 1 := by decide
  have s2 : f_X11_isSheet (nI 2) = some 1 := by decide
  have c1 : (nI 1).toNatClampNeg = 1 := by decide
  have c2 : (nI 2).toNatClampNeg = 2 := by decide
  have b1 : inb (nI 1) 4 = true := by decide
  have b2 : inb (nI 2) 4 = true := by decide
  unfold f_X11_move
  rw [s1, Option.bind_some, if_neg n1, s2, Option.bind_some, if_neg n1]
  simp only [eq_true (show nI 1 = (1 : Int32) by decide), eq_false (show ¬ nI 1 = (0 : Int32) by decide), eq_true (show nI 2 = (2 : Int32) by decide), eq_false (show ¬ nI 2 = (0 : Int32) by decide), eq_false (show ¬ nI 2 = (1 : Int32) by decide), c1, c2, b1, b2, if_true, if_false, bd_eq]
theorem mv_13 (μ : Mem) (x2 x4 x5 : Int32) : f_X11_move μ (nI 1) x2 (nI 3) x4 x5 = (f_X11_isMissing μ (nI 1)).bind fun q4 => (if q4.2 = 0 then (f_X11_isMissing q4.1 (nI 3)).bind fun q6 => (if q6.2 = 0 then (if q6.1 82 1 = q6.1 82 3 then (f_X11_stand q6.1 (nI 1) x2 x5).bind fun q9 =>
    (if q9.2 = 0 then (f_X11_fails q9.1 (1 : Int32)).bind fun q10 => some (q10.1, q10.2) else (f_X11_stand q9.1 (nI 3) x4 x5).bind fun q11 => (if q11.2 = 0 then (f_X11_fails q11.1 (1 : Int32)).bind fun q44 => some (q44.1, q44.2) else
      (if inc x2 x4 x5 24 24 = true then some (upA q11.1 (78 + 3) (va_cpy (q11.1 (78 + 1)) (q11.1 (78 + 3)) x2.toNatClampNeg x4.toNatClampNeg x5.toNatClampNeg), x5) else none)))
    else (f_X11_fails q6.1 (5 : Int32)).bind fun q45 => some (q45.1, q45.2)) else (f_X11_fails q6.1 (2 : Int32)).bind fun q46 => some (q46.1, q46.2)) else (f_X11_fails q4.1 (2 : Int32)).bind fun q5 => some (q5.1, q5.2)) := by
  have s1 : f_X11_isSheet (nI 1) = some 1 := by decide
  have s2 : f_X11_isSheet (nI 3) = some 1 := by decide
  have c1 : (nI 1).toNatClampNeg = 1 := by decide
  have c2 : (nI 3).toNatClampNeg = 3 := by decide
  have b1 : inb (nI 1) 4 = true := by decide
  have b2 : inb (nI 3) 4 = true := by decide
  unfold f_X11_move
  rw [s1, Option.bind_some, if_neg n1, s2, Option.bind_some, if_neg n1]
  simp only [eq_true (show nI 1 = (1 : Int32) by decide), eq_false (show ¬ nI 1 = (0 : Int32) by decide), eq_true (show nI 3 = (3 : Int32) by decide), eq_false (show ¬ nI 3 = (0 : Int32) by decide), eq_false (show ¬ nI 3 = (1 : Int32) by decide), eq_false (show ¬ nI 3 = (2 : Int32) by decide), c1, c2, b1, b2, if_true, if_false, bd_eq]
theorem mv_20 (μ : Mem) (x2 x4 x5 : Int32) : f_X11_move μ (nI 2) x2 (nI 0) x4 x5 = (f_X11_isMissing μ (nI 2)).bind fun q4 => (if q4.2 = 0 then (f_X11_isMissing q4.1 (nI 0)).bind fun q6 => (if q6.2 = 0 then (if q6.1 82 2 = q6.1 82 0 then (f_X11_stand q6.1 (nI 2) x2 x5).bind fun q9 =>
    (if q9.2 = 0 then (f_X11_fails q9.1 (1 : Int32)).bind fun q10 => some (q10.1, q10.2) else (f_X11_stand q9.1 (nI 0) x4 x5).bind fun q11 => (if q11.2 = 0 then (f_X11_fails q11.1 (1 : Int32)).bind fun q44 => some (q44.1, q44.2) else
      (if inc x2 x4 x5 24 24 = true then some (upA q11.1 (78 + 0) (va_cpy (q11.1 (78 + 2)) (q11.1 (78 + 0)) x2.toNatClampNeg x4.toNatClampNeg x5.toNatClampNeg), x5) else none)))
    else (f_X11_fails q6.1 (5 : Int32)).bind fun q45 => some (q45.1, q45.2)) else (f_X11_fails q6.1 (2 : Int32)).bind fun q46 => some (q46.1, q46.2)) else (f_X11_fails q4.1 (2 : Int32)).bind fun q5 => some (q5.1, q5.2)) := by
  have s1 : f_X11_isSheet (nI 2) = some 1 := by decide
  have s2 : f_X11_isSheet (nI 0) = some 1 := by decide
  have c1 : (nI 2).toNatClampNeg = 2 := by decide
  have c2 : (nI 0).toNatClampNeg = 0 := by decide
  have b1 : inb (nI 2) 4 = true := by decide
  have b2 : inb (nI 0) 4 = true := by decide
  unfold f_X11_move
  rw [s1, Option.bind_some, if_neg n1, s2, Option.bind_some, if_neg n1]
  simp only [eq_true (show nI 0 = (0 : Int32) by decide), eq_true (show nI 2 = (2 : Int32) by decide), eq_false (show ¬ nI 2 = (0 : Int32) by decide), eq_false (show ¬ nI 2 = (1 : Int32) by decide), c1, c2, b1, b2, if_true, if_false, bd_eq]
theorem mv_21 (μ : Mem) (x2 x4 x5 : Int32) : f_X11_move μ (nI 2) x2 (nI 1) x4 x5 = (f_X11_isMissing μ (nI 2)).bind fun q4 => (if q4.2 = 0 then (f_X11_isMissing q4.1 (nI 1)).bind fun q6 => (if q6.2 = 0 then (if q6.1 82 2 = q6.1 82 1 then (f_X11_stand q6.1 (nI 2) x2 x5).bind fun q9 =>
    (if q9.2 = 0 then (f_X11_fails q9.1 (1 : Int32)).bind fun q10 => some (q10.1, q10.2) else (f_X11_stand q9.1 (nI 1) x4 x5).bind fun q11 => (if q11.2 = 0 then (f_X11_fails q11.1 (1 : Int32)).bind fun q44 => some (q44.1, q44.2) else
      (if inc x2 x4 x5 24 24 = true then some (upA q11.1 (78 + 1) (va_cpy (q11.1 (78 + 2)) (q11.1 (78 + 1)) x2.toNatClampNeg x4.toNatClampNeg x5.toNatClampNeg), x5) else none)))
    else (f_X11_fails q6.1 (5 : Int32)).bind fun q45 => some (q45.1, q45.2)) else (f_X11_fails q6.1 (2 : Int32)).bind fun q46 => some (q46.1, q46.2)) else (f_X11_fails q4.1 (2 : Int32)).bind fun q5 => some (q5.1, q5.2)) := by
  have s1 : f_X11_isSheet (nI 2) = some 1 := by decide
  have s2 : f_X11_isSheet (nI 1) = some 1 := by decide
  have c1 : (nI 2).toNatClampNeg = 2 := by decide
  have c2 : (nI 1).toNatClampNeg = 1 := by decide
  have b1 : inb (nI 2) 4 = true := by decide
  have b2 : inb (nI 1) 4 = true := by decide
  unfold f_X11_move
  rw [s1, Option.bind_some, if_neg n1, s2, Option.bind_some, if_neg n1]
  simp only [eq_true (show nI 1 = (1 : Int32) by decide), eq_false (show ¬ nI 1 = (0 : Int32) by decide), eq_true (show nI 2 = (2 : Int32) by decide), eq_false (show ¬ nI 2 = (0 : Int32) by decide), eq_false (show ¬ nI 2 = (1 : Int32) by decide), c1, c2, b1, b2, if_true, if_false, bd_eq]
theorem mv_22 (μ : Mem) (x2 x4 x5 : Int32) : f_X11_move μ (nI 2) x2 (nI 2) x4 x5 = (f_X11_isMissing μ (nI 2)).bind fun q4 => (if q4.2 = 0 then (f_X11_isMissing q4.1 (nI 2)).bind fun q6 => (if q6.2 = 0 then (if q6.1 82 2 = q6.1 82 2 then (f_X11_stand q6.1 (nI 2) x2 x5).bind fun q9 =>
    (if q9.2 = 0 then (f_X11_fails q9.1 (1 : Int32)).bind fun q10 => some (q10.1, q10.2) else (f_X11_stand q9.1 (nI 2) x4 x5).bind fun q11 => (if q11.2 = 0 then (f_X11_fails q11.1 (1 : Int32)).bind fun q44 => some (q44.1, q44.2) else
      (if inc x2 x4 x5 24 24 = true then some (upA q11.1 (78 + 2) (va_cpy (q11.1 (78 + 2)) (q11.1 (78 + 2)) x2.toNatClampNeg x4.toNatClampNeg x5.toNatClampNeg), x5) else none)))
    else (f_X11_fails q6.1 (5 : Int32)).bind fun q45 => some (q45.1, q45.2)) else (f_X11_fails q6.1 (2 : Int32)).bind fun q46 => some (q46.1, q46.2)) else (f_X11_fails q4.1 (2 : Int32)).bind fun q5 => some (q5.1, q5.2)) := by
  have s1 : f_X11_isSheet (nI 2) = some 1 := by decide
  have s2 : f_X11_isSheet (nI 2) = some 1 := by decide
  have c1 : (nI 2).toNatClampNeg = 2 := by decide
  have c2 : (nI 2).toNatClampNeg = 2 := by decide
  have b1 : inb (nI 2) 4 = true := by decide
  have b2 : inb (nI 2) 4 = true := by decide
  unfold f_X11_move
  rw [s1, Option.bind_some, if_neg n1, Option.bind_some, if_neg n1]
  simp only [eq_true (show nI 2 = (2 : Int32) by decide), eq_false (show ¬ nI 2 = (0 : Int32) by decide), eq_false (show ¬ nI 2 = (1 : Int32) by decide), c1, c2, b1, b2, if_true, if_false, bd_eq]
theorem mv_23 (μ : Mem) (x2 x4 x5 : Int32) : f_X11_move μ (nI 2) x2 (nI 3) x4 x5 = (f_X11_isMissing μ (nI 2)).bind fun q4 => (if q4.2 = 0 then (f_X11_isMissing q4.1 (nI 3)).bind fun q6 => (if q6.2 = 0 then (if q6.1 82 2 = q6.1 82 3 then (f_X11_stand q6.1 (nI 2) x2 x5).bind fun q9 =>
    (if q9.2 = 0 then (f_X11_fails q9.1 (1 : Int32)).bind fun q10 => some (q10.1, q10.2) else (f_X11_stand q9.1 (nI 3) x4 x5).bind fun q11 => (if q11.2 = 0 then (f_X11_fails q11.1 (1 : Int32)).bind fun q44 => some (q44.1, q44.2) else
      (if inc x2 x4 x5 24 24 = true then some (upA q11.1 (78 + 3) (va_cpy (q11.1 (78 + 2)) (q11.1 (78 + 3)) x2.toNatClampNeg x4.toNatClampNeg x5.toNatClampNeg), x5) else none)))
    else (f_X11_fails q6.1 (5 : Int32)).bind fun q45 => some (q45.1, q45.2)) else (f_X11_fails q6.1 (2 : Int32)).bind fun q46 => some (q46.1, q46.2)) else (f_X11_fails q4.1 (2 : Int32)).bind fun q5 => some (q5.1, q5.2)) := by
  have s1 : f_X11_isSheet (nI 2) = some 1 := by decide
  have s2 : f_X11_isSheet (nI 3) = some 1 := by decide
  have c1 : (nI 2).toNatClampNeg = 2 := by decide
  have c2 : (nI 3).toNatClampNeg = 3 := by decide
  have b1 : inb (nI 2) 4 = true := by decide
  have b2 : inb (nI 3) 4 = true := by decide
  unfold f_X11_move
  rw [s1, Option.bind_some, if_neg n1, s2, Option.bind_some, if_neg n1]
  simp only [eq_true (show nI 2 = (2 : Int32) by decide), eq_false (show ¬ nI 2 = (0 : Int32) by decide), eq_false (show ¬ nI 2 = (1 : Int32) by decide), eq_true (show nI 3 = (3 : Int32) by decide), eq_false (show ¬ nI 3 = (0 : Int32) by decide), eq_false (show ¬ nI 3 = (1 : Int32) by decide), eq_false (show ¬ nI 3 = (2 : Int32) by decide), c1, c2, b1, b2, if_true, if_false, bd_eq]
theorem mv_30 (μ : Mem) (x2 x4 x5 : Int32) : f_X11_move μ (nI 3) x2 (nI 0) x4 x5 = (f_X11_isMissing μ (nI 3)).bind fun q4 => (if q4.2 = 0 then (f_X11_isMissing q4.1 (nI 0)).bind fun q6 => (if q6.2 = 0 then (if q6.1 82 3 = q6.1 82 0 then (f_X11_stand q6.1 (nI 3) x2 x5).bind fun q9 =>
    (if q9.2 = 0 then (f_X11_fails q9.1 (1 : Int32)).bind fun q10 => some (q10.1, q10.2) else (f_X11_stand q9.1 (nI 0) x4 x5).bind fun q11 => (if q11.2 = 0 then (f_X11_fails q11.1 (1 : Int32)).bind fun q44 => some (q44.1, q44.2) else
      (if inc x2 x4 x5 24 24 = true then some (upA q11.1 (78 + 0) (va_cpy (q11.1 (78 + 3)) (q11.1 (78 + 0)) x2.toNatClampNeg x4.toNatClampNeg x5.toNatClampNeg), x5) else none)))
    else (f_X11_fails q6.1 (5 : Int32)).bind fun q45 => some (q45.1, q45.2)) else (f_X11_fails q6.1 (2 : Int32)).bind fun q46 => some (q46.1, q46.2)) else (f_X11_fails q4.1 (2 : Int32)).bind fun q5 => some (q5.1, q5.2)) := by
  have s1 : f_X11_isSheet (nI 3) = some 1 := by decide
  have s2 : f_X11_isSheet (nI 0) = some 1 := by decide
  have c1 : (nI 3).toNatClampNeg = 3 := by decide
  have c2 : (nI 0).toNatClampNeg = 0 := by decide
  have b1 : inb (nI 3) 4 = true := by decide
  have b2 : inb (nI 0) 4 = true := by decide
  unfold f_X11_move
  rw [s1, Option.bind_some, if_neg n1, s2, Option.bind_some, if_neg n1]
  simp only [eq_true (show nI 0 = (0 : Int32) by decide), eq_true (show nI 3 = (3 : Int32) by decide), eq_false (show ¬ nI 3 = (0 : Int32) by decide), eq_false (show ¬ nI 3 = (1 : Int32) by decide), eq_false (show ¬ nI 3 = (2 : Int32) by decide), c1, c2, b1, b2, if_true, if_false, bd_eq]
theorem mv_31 (μ : Mem) (x2 x4 x5 : Int32) : f_X11_move μ (nI 3) x2 (nI 1) x4 x5 = (f_X11_isMissing μ (nI 3)).bind fun q4 => (if q4.2 = 0 then (f_X11_isMissing q4.1 (nI 1)).bind fun q6 => (if q6.2 = 0 then (if q6.1 82 3 = q6.1 82 1 then (f_X11_stand q6.1 (nI 3) x2 x5).bind fun q9 =>
    (if q9.2 = 0 then (f_X11_fails q9.1 (1 : Int32)).bind fun q10 => some (q10.1, q10.2) else (f_X11_stand q9.1 (nI 1) x4 x5).bind fun q11 => (if q11.2 = 0 then (f_X11_fails q11.1 (1 : Int32)).bind fun q44 => some (q44.1, q44.2) else
      (if inc x2 x4 x5 24 24 = true then some (upA q11.1 (78 + 1) (va_cpy (q11.1 (78 + 3)) (q11.1 (78 + 1)) x2.toNatClampNeg x4.toNatClampNeg x5.toNatClampNeg), x5) else none)))
    else (f_X11_fails q6.1 (5 : Int32)).bind fun q45 => some (q45.1, q45.2)) else (f_X11_fails q6.1 (2 : Int32)).bind fun q46 => some (q46.1, q46.2)) else (f_X11_fails q4.1 (2 : Int32)).bind fun q5 => some (q5.1, q5.2)) := by
  have s1 : f_X11_isSheet (nI 3) = some 1 := by decide
  have s2 : f_X11_isSheet (nI 1) = some 1 := by decide
  have c1 : (nI 3).toNatClampNeg = 3 := by decide
  have c2 : (nI 1).toNatClampNeg = 1 := by decide
  have b1 : inb (nI 3) 4 = true := by decide
  have b2 : inb (nI 1) 4 = true := by decide
  unfold f_X11_move
  rw [s1, Option.bind_some, if_neg n1, s2, Option.bind_some, if_neg n1]
  simp only [eq_true (show nI 1 = (1 : Int32) by decide), eq_false (show ¬ nI 1 = (0 : Int32) by decide), eq_true (show nI 3 = (3 : Int32) by decide), eq_false (show ¬ nI 3 = (0 : Int32) by decide), eq_false (show ¬ nI 3 = (1 : Int32) by decide), eq_false (show ¬ nI 3 = (2 : Int32) by decide), c1, c2, b1, b2, if_true, if_false, bd_eq]
theorem mv_32 (μ : Mem) (x2 x4 x5 : Int32) : f_X11_move μ (nI 3) x2 (nI 2) x4 x5 = (f_X11_isMissing μ (nI 3)).bind fun q4 => (if q4.2 = 0 then (f_X11_isMissing q4.1 (nI 2)).bind fun q6 => (if q6.2 = 0 then (if q6.1 82 3 = q6.1 82 2 then (f_X11_stand q6.1 (nI 3) x2 x5).bind fun q9 =>
    (if q9.2 = 0 then (f_X11_fails q9.1 (1 : Int32)).bind fun q10 => some (q10.1, q10.2) else (f_X11_stand q9.1 (nI 2) x4 x5).bind fun q11 => (if q11.2 = 0 then (f_X11_fails q11.1 (1 : Int32)).bind fun q44 => some (q44.1, q44.2) else
      (if inc x2 x4 x5 24 24 = true then some (upA q11.1 (78 + 2) (va_cpy (q11.1 (78 + 3)) (q11.1 (78 + 2)) x2.toNatClampNeg x4.toNatClampNeg x5.toNatClampNeg), x5) else none)))
    else (f_X11_fails q6.1 (5 : Int32)).bind fun q45 => some (q45.1, q45.2)) else (f_X11_fails q6.1 (2 : Int32)).bind fun q46 => some (q46.1, q46.2)) else (f_X11_fails q4.1 (2 : Int32)).bind fun q5 => some (q5.1, q5.2)) := by
  have s1 : f_X11_isSheet (nI 3) = some 1 := by decide
  have s2 : f_X11_isSheet (nI 2) = some 1 := by decide
  have c1 : (nI 3).toNatClampNeg = 3 := by decide
  have c2 : (nI 2).toNatClampNeg = 2 := by decide
  have b1 : inb (nI 3) 4 = true := by decide
  have b2 : inb (nI 2) 4 = true := by decide
  unfold f_X11_move
  rw [s1, Option.bind_some, if_neg n1, s2, Option.bind_some, if_neg n1]
  simp only [eq_true (show nI 2 = (2 : Int32) by decide), eq_false (show ¬ nI 2 = (0 : Int32) by decide), eq_false (show ¬ nI 2 = (1 : Int32) by decide), eq_true (show nI 3 = (3 : Int32) by decide), eq_false (show ¬ nI 3 = (0 : Int32) by decide), eq_false (show ¬ nI 3 = (1 : Int32) by decide), eq_false (show ¬ nI 3 = (2 : Int32) by decide), c1, c2, b1, b2, if_true, if_false, bd_eq]
theorem mv_33 (μ : Mem) (x2 x4 x5 : Int32) : f_X11_move μ (nI 3) x2 (nI 3) x4 x5 = (f_X11_isMissing μ (nI 3)).bind fun q4 => (if q4.2 = 0 then (f_X11_isMissing q4.1 (nI 3)).bind fun q6 => (if q6.2 = 0 then (if q6.1 82 3 = q6.1 82 3 then (f_X11_stand q6.1 (nI 3) x2 x5).bind fun q9 =>
    (if q9.2 = 0 then (f_X11_fails q9.1 (1 : Int32)).bind fun q10 => some (q10.1, q10.2) else (f_X11_stand q9.1 (nI 3) x4 x5).bind fun q11 => (if q11.2 = 0 then (f_X11_fails q11.1 (1 : Int32)).bind fun q44 => some (q44.1, q44.2) else
      (if inc x2 x4 x5 24 24 = true then some (upA q11.1 (78 + 3) (va_cpy (q11.1 (78 + 3)) (q11.1 (78 + 3)) x2.toNatClampNeg x4.toNatClampNeg x5.toNatClampNeg), x5) else none)))
    else (f_X11_fails q6.1 (5 : Int32)).bind fun q45 => some (q45.1, q45.2)) else (f_X11_fails q6.1 (2 : Int32)).bind fun q46 => some (q46.1, q46.2)) else (f_X11_fails q4.1 (2 : Int32)).bind fun q5 => some (q5.1, q5.2)) := by
  have s1 : f_X11_isSheet (nI 3) = some 1 := by decide
  have s2 : f_X11_isSheet (nI 3) = some 1 := by decide
  have c1 : (nI 3).toNatClampNeg = 3 := by decide
  have c2 : (nI 3).toNatClampNeg = 3 := by decide
  have b1 : inb (nI 3) 4 = true := by decide
  have b2 : inb (nI 3) 4 = true := by decide
  unfold f_X11_move
  rw [s1, Option.bind_some, if_neg n1, Option.bind_some, if_neg n1]
  simp only [eq_true (show nI 3 = (3 : Int32) by decide), eq_false (show ¬ nI 3 = (0 : Int32) by decide), eq_false (show ¬ nI 3 = (1 : Int32) by decide), eq_false (show ¬ nI 3 = (2 : Int32) by decide), c1, c2, b1, b2, if_true, if_false, bd_eq]
theorem mv_k {i j : Nat} (hi : i < 4) (hj : j < 4) (μ : Mem) (x2 x4 x5 : Int32) : f_X11_move μ (nI i) x2 (nI j) x4 x5 = (f_X11_isMissing μ (nI i)).bind fun q4 => (if q4.2 = 0 then (f_X11_isMissing q4.1 (nI j)).bind fun q6 => (if q6.2 = 0 then (if q6.1 82 i = q6.1 82 j then (f_X11_stand q6.1 (nI i) x2 x5).bind fun q9 =>
    (if q9.2 = 0 then (f_X11_fails q9.1 (1 : Int32)).bind fun q10 => some (q10.1, q10.2) else (f_X11_stand q9.1 (nI j) x4 x5).bind fun q11 => (if q11.2 = 0 then (f_X11_fails q11.1 (1 : Int32)).bind fun q44 => some (q44.1, q44.2) else
      (if inc x2 x4 x5 24 24 = true then some (upA q11.1 (78 + j) (va_cpy (q11.1 (78 + i)) (q11.1 (78 + j)) x2.toNatClampNeg x4.toNatClampNeg x5.toNatClampNeg), x5) else none)))
    else (f_X11_fails q6.1 (5 : Int32)).bind fun q45 => some (q45.1, q45.2)) else (f_X11_fails q6.1 (2 : Int32)).bind fun q46 => some (q46.1, q46.2)) else (f_X11_fails q4.1 (2 : Int32)).bind fun q5 => some (q5.1, q5.2)) := by
  have h1 : i = 0 ∨ i = 1 ∨ i = 2 ∨ i = 3 := by omega
  have h2 : j = 0 ∨ j = 1 ∨ j = 2 ∨ j = 3 := by omega
  rcases h1 with e | e | e | e <;> subst e <;> rcases h2 with f | f | f | f <;> subst f
  · exact mv_00 μ x2 x4 x5
  · exact mv_01 μ x2 x4 x5
  · exact mv_02 μ x2 x4 x5
  · exact mv_03 μ x2 x4 x5
  · exact mv_10 μ x2 x4 x5
  · exact mv_11 μ x2 x4 x5
  · exact mv_12 μ x2 x4 x5
  · exact mv_13 μ x2 x4 x5
  · exact mv_20 μ x2 x4 x5
  · exact mv_21 μ x2 x4 x5
  · exact mv_22 μ x2 x4 x5
  · exact mv_23 μ x2 x4 x5
  · exact mv_30 μ x2 x4 x5
  · exact mv_31 μ x2 x4 x5
  · exact mv_32 μ x2 x4 x5
  · exact mv_33 μ x2 x4 x5
