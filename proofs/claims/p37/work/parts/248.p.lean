theorem fr_0 (g : Nat) (μ : Mem) (x1 x2 : Int32) : f_X11_flyRow_L2 (g + 1) μ x1 x2 (nI 0) = (if x2 ≤ nI 0 then some μ else (if inb ((x2 - (1 : Int32)) - nI 0) 4 = true then (if ¬ tabN ((x2 - (1 : Int32)) - nI 0).toNatClampNeg = 0 then
    (if (x1 - x1 / tabN ((x2 - (1 : Int32)) - nI 0).toNatClampNeg * tabN ((x2 - (1 : Int32)) - nI 0).toNatClampNeg) = 0 then (f_X4_copyFrom (sub (QL 1) μ)).bind fun q => (f_X4_flyAt (sub (SL 1) (put (QL 1) μ q))
        ((x1 / tabN ((x2 - (1 : Int32)) - nI 0).toNatClampNeg) - (x1 / tabN ((x2 - (1 : Int32)) - nI 0).toNatClampNeg) / (9 : Int32) * (9 : Int32))).bind fun w => f_X11_flyRow_L2 g (put (SL 1) (put (QL 1) μ q) w.1) x1 x2 (nI 0 + 1)
      else f_X11_flyRow_L2 g μ x1 x2 (nI 0 + 1)) else none) else none)) := by
  rw [f_X11_flyRow_L2]
  simp only [eq_true (show nI 0 + (1 : Int32) = (1 : Int32) by decide), eq_true (show nI 0 = (0 : Int32) by decide), eq_false (show ¬ nI 0 + (1 : Int32) = (0 : Int32) by decide), eq_false (show ¬ nI 0 = (1 : Int32) by decide), eq_false (show ¬ nI 0 + (1 : Int32) = (2 : Int32) by decide), eq_false (show ¬ nI 0 = (2 : Int32) by decide), eq_false (show ¬ nI 0 + (1 : Int32) = (3 : Int32) by decide), eq_false (show ¬ nI 0 = (3 : Int32) by decide), if_true, if_false, bd]
  by_cases a : x2 ≤ nI 0
  · rw [if_pos a, if_pos a]
  · rw [if_neg a, if_neg a]
    by_cases b : inb ((x2 - (1 : Int32)) - nI 0) 4 = true
    · rw [if_pos b, if_pos b]
      by_cases c : tabN ((x2 - (1 : Int32)) - nI 0).toNatClampNeg = 0
      · rw [if_neg (fun h => h c), if_neg (fun h => h c)]
      · rw [if_pos c, if_pos c]
        by_cases d : (x1 - x1 / tabN ((x2 - (1 : Int32)) - nI 0).toNatClampNeg * tabN ((x2 - (1 : Int32)) - nI 0).toNatClampNeg) = 0
        · rw [if_pos d, if_pos d]
          refine congrArg (Option.bind _) (funext fun q => ?_)
          rw [if_pos c]
          rfl
        · rw [if_neg d, if_neg d]
    · rw [if_neg b, if_neg b]
theorem fr_1 (g : Nat) (μ : Mem) (x1 x2 : Int32) : f_X11_flyRow_L2 (g + 1) μ x1 x2 (nI 1) = (if x2 ≤ nI 1 then some μ else (if inb ((x2 - (1 : Int32)) - nI 1) 4 = true then (if ¬ tabN ((x2 - (1 : Int32)) - nI 1).toNatClampNeg = 0 then
    (if (x1 - x1 / tabN ((x2 - (1 : Int32)) - nI 1).toNatClampNeg * tabN ((x2 - (1 : Int32)) - nI 1).toNatClampNeg) = 0 then (f_X4_copyFrom (sub (QL 2) μ)).bind fun q => (f_X4_flyAt (sub (SL 2) (put (QL 2) μ q))
        ((x1 / tabN ((x2 - (1 : Int32)) - nI 1).toNatClampNeg) - (x1 / tabN ((x2 - (1 : Int32)) - nI 1).toNatClampNeg) / (9 : Int32) * (9 : Int32))).bind fun w => f_X11_flyRow_L2 g (put (SL 2) (put (QL 2) μ q) w.1) x1 x2 (nI 1 + 1)
      else f_X11_flyRow_L2 g μ x1 x2 (nI 1 + 1)) else none) else none)) := by
  rw [f_X11_flyRow_L2]
  simp only [eq_true (show nI 1 + (1 : Int32) = (2 : Int32) by decide), eq_true (show nI 1 = (1 : Int32) by decide), eq_false (show ¬ nI 1 + (1 : Int32) = (0 : Int32) by decide), eq_false (show ¬ nI 1 = (0 : Int32) by decide), eq_false (show ¬ nI 1 + (1 : Int32) = (1 : Int32) by decide), eq_false (show ¬ nI 1 = (2 : Int32) by decide), eq_false (show ¬ nI 1 + (1 : Int32) = (3 : Int32) by decide), eq_false (show ¬ nI 1 = (3 : Int32) by decide), if_true, if_false, bd]
  by_cases a : x2 ≤ nI 1
  · rw [if_pos a, if_pos a]
  · rw [if_neg a, if_neg a]
    by_cases b : inb ((x2 - (1 : Int32)) - nI 1) 4 = true
    · rw [if_pos b, if_pos b]
      by_cases c : tabN ((x2 - (1 : Int32)) - nI 1).toNatClampNeg = 0
      · rw [if_neg (fun h => h c), if_neg (fun h => h c)]
      · rw [if_pos c, if_pos c]
        by_cases d : (x1 - x1 / tabN ((x2 - (1 : Int32)) - nI 1).toNatClampNeg * tabN ((x2 - (1 : Int32)) - nI 1).toNatClampNeg) = 0
        · rw [if_pos d, if_pos d]
          refine congrArg (Option.bind _) (funext fun q => ?_)
          rw [if_pos c]
          rfl
        · rw [if_neg d, if_neg d]
    · rw [if_neg b, if_neg b]
theorem fr_2 (g : Nat) (μ : Mem) (x1 x2 : Int32) : f_X11_flyRow_L2 (g + 1) μ x1 x2 (nI 2) = (if x2 ≤ nI 2 then some μ else (if inb ((x2 - (1 : Int32)) - nI 2) 4 = true then (if ¬ tabN ((x2 - (1 : Int32)) - nI 2).toNatClampNeg = 0 then
    (if (x1 - x1 / tabN ((x2 - (1 : Int32)) - nI 2).toNatClampNeg * tabN ((x2 - (1 : Int32)) - nI 2).toNatClampNeg) = 0 then (f_X4_copyFrom (sub (QL 3) μ)).bind fun q => (f_X4_flyAt (sub (SL 3) (put (QL 3) μ q))
        ((x1 / tabN ((x2 - (1 : Int32)) - nI 2).toNatClampNeg) - (x1 / tabN ((x2 - (1 : Int32)) - nI 2).toNatClampNeg) / (9 : Int32) * (9 : Int32))).bind fun w => f_X11_flyRow_L2 g (put (SL 3) (put (QL 3) μ q) w.1) x1 x2 (nI 2 + 1)
      else f_X11_flyRow_L2 g μ x1 x2 (nI 2 + 1)) else none) else none)) := by
  rw [f_X11_flyRow_L2]
  simp only [eq_true (show nI 2 + (1 : Int32) = (3 : Int32) by decide), eq_true (show nI 2 = (2 : Int32) by decide), eq_false (show ¬ nI 2 + (1 : Int32) = (0 : Int32) by decide), eq_false (show ¬ nI 2 = (0 : Int32) by decide), eq_false (show ¬ nI 2 + (1 : Int32) = (1 : Int32) by decide), eq_false (show ¬ nI 2 = (1 : Int32) by decide), eq_false (show ¬ nI 2 + (1 : Int32) = (2 : Int32) by decide), eq_false (show ¬ nI 2 = (3 : Int32) by decide), if_true, if_false, bd]
  by_cases a : x2 ≤ nI 2
  · rw [if_pos a, if_pos a]
  · rw [if_neg a, if_neg a]
    by_cases b : inb ((x2 - (1 : Int32)) - nI 2) 4 = true
    · rw [if_pos b, if_pos b]
      by_cases c : tabN ((x2 - (1 : Int32)) - nI 2).toNatClampNeg = 0
      · rw [if_neg (fun h => h c), if_neg (fun h => h c)]
      · rw [if_pos c, if_pos c]
        by_cases d : (x1 - x1 / tabN ((x2 - (1 : Int32)) - nI 2).toNatClampNeg * tabN ((x2 - (1 : Int32)) - nI 2).toNatClampNeg) = 0
        · rw [if_pos d, if_pos d]
          refine congrArg (Option.bind _) (funext fun q => ?_)
          rw [if_pos c]
          rfl
        · rw [if_neg d, if_neg d]
    · rw [if_neg b, if_neg b]
