theorem br_1 (g : Nat) (μ : Mem) (x1 x3 x4 x5 : Int32) : f_X11_bestRound_L33 (g + 1) μ x1 (nI 1) x3 x4 x5 = (if nI (9 ^ 1) ≤ x5 then some (μ, x4) else (f_X11_flyRow μ x5 (nI 1)).bind fun q6 => (f_X4_stands (sub (SL 1) q6) x1).bind fun q7 =>
    if q7.2 = 0 then (f_X4_howMany (sub (SL 1) (put (SL 1) q6 q7.1))).bind fun q9 => (f_X11_figures x5 (nI 1)).bind fun q13 =>
      (if x4 < 0 then f_X11_bestRound_L33 g (put (SL 1) (put (SL 1) q6 q7.1) q9.1) x1 (nI 1) x3 ((((x3 - (1 : Int32)) - q9.2) * (1000 : Int32)) + q13) (x5 + 1)
        else (if x4 ≤ (((x3 - (1 : Int32)) - q9.2) * (1000 : Int32)) + q13 then f_X11_bestRound_L33 g (put (SL 1) (put (SL 1) q6 q7.1) q9.1) x1 (nI 1) x3 x4 (x5 + 1)
          else f_X11_bestRound_L33 g (put (SL 1) (put (SL 1) q6 q7.1) q9.1) x1 (nI 1) x3 ((((x3 - (1 : Int32)) - q9.2) * (1000 : Int32)) + q13) (x5 + 1)))
    else f_X11_bestRound_L33 g (put (SL 1) q6 q7.1) x1 (nI 1) x3 x4 (x5 + 1)) := by
  have i3 : inb (3 : Int32) 4 = true := by decide
  have in_ : inb (nI 1) 4 = true := by decide
  have tn : tabN (nI 1).toNatClampNeg = nI (9 ^ 1) := by decide
  have tt : tabT (3 : Int32).toNatClampNeg = (1000 : Int32) := by decide
  rw [f_X11_bestRound_L33]
  simp only [eq_true (show nI 1 = (1 : Int32) by decide), eq_false (show ¬ nI 1 = (0 : Int32) by decide), eq_false (show ¬ nI 1 = (2 : Int32) by decide), eq_false (show ¬ nI 1 = (3 : Int32) by decide), i3, in_, tn, tt, if_true, if_false, bd_eq]
  rfl
theorem br_2 (g : Nat) (μ : Mem) (x1 x3 x4 x5 : Int32) : f_X11_bestRound_L33 (g + 1) μ x1 (nI 2) x3 x4 x5 = (if nI (9 ^ 2) ≤ x5 then some (μ, x4) else (f_X11_flyRow μ x5 (nI 2)).bind fun q6 => (f_X4_stands (sub (SL 2) q6) x1).bind fun q7 =>
    if q7.2 = 0 then (f_X4_howMany (sub (SL 2) (put (SL 2) q6 q7.1))).bind fun q9 => (f_X11_figures x5 (nI 2)).bind fun q13 =>
      (if x4 < 0 then f_X11_bestRound_L33 g (put (SL 2) (put (SL 2) q6 q7.1) q9.1) x1 (nI 2) x3 ((((x3 - (1 : Int32)) - q9.2) * (1000 : Int32)) + q13) (x5 + 1)
        else (if x4 ≤ (((x3 - (1 : Int32)) - q9.2) * (1000 : Int32)) + q13 then f_X11_bestRound_L33 g (put (SL 2) (put (SL 2) q6 q7.1) q9.1) x1 (nI 2) x3 x4 (x5 + 1)
          else f_X11_bestRound_L33 g (put (SL 2) (put (SL 2) q6 q7.1) q9.1) x1 (nI 2) x3 ((((x3 - (1 : Int32)) - q9.2) * (1000 : Int32)) + q13) (x5 + 1)))
    else f_X11_bestRound_L33 g (put (SL 2) q6 q7.1) x1 (nI 2) x3 x4 (x5 + 1)) := by
  have i3 : inb (3 : Int32) 4 = true := by decide
  have in_ : inb (nI 2) 4 = true := by decide
  have tn : tabN (nI 2).toNatClampNeg = nI (9 ^ 2) := by decide
  have tt : tabT (3 : Int32).toNatClampNeg = (1000 : Int32) := by decide
  rw [f_X11_bestRound_L33]
  simp only [eq_true (show nI 2 = (2 : Int32) by decide), eq_false (show ¬ nI 2 = (0 : Int32) by decide), eq_false (show ¬ nI 2 = (1 : Int32) by decide), eq_false (show ¬ nI 2 = (3 : Int32) by decide), i3, in_, tn, tt, if_true, if_false, bd_eq]
  rfl
theorem br_3 (g : Nat) (μ : Mem) (x1 x3 x4 x5 : Int32) : f_X11_bestRound_L33 (g + 1) μ x1 (nI 3) x3 x4 x5 = (if nI (9 ^ 3) ≤ x5 then some (μ, x4) else (f_X11_flyRow μ x5 (nI 3)).bind fun q6 => (f_X4_stands (sub (SL 3) q6) x1).bind fun q7 =>
    if q7.2 = 0 then (f_X4_howMany (sub (SL 3) (put (SL 3) q6 q7.1))).bind fun q9 => (f_X11_figures x5 (nI 3)).bind fun q13 =>
      (if x4 < 0 then f_X11_bestRound_L33 g (put (SL 3) (put (SL 3) q6 q7.1) q9.1) x1 (nI 3) x3 ((((x3 - (1 : Int32)) - q9.2) * (1000 : Int32)) + q13) (x5 + 1)
        else (if x4 ≤ (((x3 - (1 : Int32)) - q9.2) * (1000 : Int32)) + q13 then f_X11_bestRound_L33 g (put (SL 3) (put (SL 3) q6 q7.1) q9.1) x1 (nI 3) x3 x4 (x5 + 1)
          else f_X11_bestRound_L33 g (put (SL 3) (put (SL 3) q6 q7.1) q9.1) x1 (nI 3) x3 ((((x3 - (1 : Int32)) - q9.2) * (1000 : Int32)) + q13) (x5 + 1)))
    else f_X11_bestRound_L33 g (put (SL 3) q6 q7.1) x1 (nI 3) x3 x4 (x5 + 1)) := by
  have i3 : inb (3 : Int32) 4 = true := by decide
  have in_ : inb (nI 3) 4 = true := by decide
  have tn : tabN (nI 3).toNatClampNeg = nI (9 ^ 3) := by decide
  have tt : tabT (3 : Int32).toNatClampNeg = (1000 : Int32) := by decide
  rw [f_X11_bestRound_L33]
  simp only [eq_true (show nI 3 = (3 : Int32) by decide), eq_false (show ¬ nI 3 = (0 : Int32) by decide), eq_false (show ¬ nI 3 = (1 : Int32) by decide), eq_false (show ¬ nI 3 = (2 : Int32) by decide), i3, in_, tn, tt, if_true, if_false, bd_eq]
  rfl
