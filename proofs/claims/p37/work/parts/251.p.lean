theorem br_k {n : Nat} (h1 : 1 ≤ n) (h3 : n ≤ 3) (g : Nat) (μ : Mem) (x1 x3 x4 x5 : Int32) : f_X11_bestRound_L33 (g + 1) μ x1 (nI n) x3 x4 x5 = (if nI (9 ^ n) ≤ x5 then some (μ, x4) else (f_X11_flyRow μ x5 (nI n)).bind fun q6 => (f_X4_stands (sub (SL n) q6) x1).bind fun q7 =>
    if q7.2 = 0 then (f_X4_howMany (sub (SL n) (put (SL n) q6 q7.1))).bind fun q9 => (f_X11_figures x5 (nI n)).bind fun q13 =>
      (if x4 < 0 then f_X11_bestRound_L33 g (put (SL n) (put (SL n) q6 q7.1) q9.1) x1 (nI n) x3 ((((x3 - (1 : Int32)) - q9.2) * (1000 : Int32)) + q13) (x5 + 1)
        else (if x4 ≤ (((x3 - (1 : Int32)) - q9.2) * (1000 : Int32)) + q13 then f_X11_bestRound_L33 g (put (SL n) (put (SL n) q6 q7.1) q9.1) x1 (nI n) x3 x4 (x5 + 1)
          else f_X11_bestRound_L33 g (put (SL n) (put (SL n) q6 q7.1) q9.1) x1 (nI n) x3 ((((x3 - (1 : Int32)) - q9.2) * (1000 : Int32)) + q13) (x5 + 1)))
    else f_X11_bestRound_L33 g (put (SL n) q6 q7.1) x1 (nI n) x3 x4 (x5 + 1)) := by
  have : n = 1 ∨ n = 2 ∨ n = 3 := by omega
  rcases this with e | e | e <;> subst e
  · exact br_1 g μ x1 x3 x4 x5
  · exact br_2 g μ x1 x3 x4 x5
  · exact br_3 g μ x1 x3 x4 x5
/-- the figures of a row -/
def FG : Nat → Nat → Nat
  | 0, _ => 0
  | k + 1, row => FG k row + (row / 9 ^ k % 9 + 1) * 10 ^ k
theorem tabs : ∀ k, k < 3 → inb (nI k) 4 = true ∧ tabN (nI k).toNatClampNeg = nI (9 ^ k) ∧ tabT (nI k).toNatClampNeg = nI (10 ^ k) ∧ 0 < 9 ^ k ∧ 9 ^ k < 1000 := by decide +kernel
theorem fig_L {n row : Nat} (hn : n ≤ 3) (hr : row < 1000) : ∀ (r k f : Nat), k + r = n → r < f → f_X11_figures_L4 f (nI row) (nI n) (nI (FG k row)) (nI k) = some (nI (FG n row)) := by
  intro r
  induction r with
  | zero =>
    intro k f hk hf
    obtain ⟨f, rfl⟩ : ∃ f', f = f' + 1 := ⟨f - 1, by omega⟩
    obtain rfl : k = n := by omega
    rw [f_X11_figures_L4, if_pos (Int32.le_refl _)]
  | succ r ih =>
    intro k f hk hf
    obtain ⟨f, rfl⟩ : ∃ f', f = f' + 1 := ⟨f - 1, by omega⟩
    obtain ⟨t1, t2, t3, t4, t5⟩ := tabs k (by omega)
    have l : row / 9 ^ k ≤ row := Nat.div_le_self _ _
    rw [f_X11_figures_L4, if_neg (by rw [nI_leI (by omega) (by omega)]; omega), if_pos t1, t2, if_pos (nI_ne0 t4 (by omega)), if_pos t1, t3, bd_eq, pk_div (by omega) t4 (by omega),
      show nI (row / 9 ^ k) - nI (row / 9 ^ k) / (9 : Int32) * (9 : Int32) = nI (row / 9 ^ k % 9) from pk_rem (d := 9) (by omega) (by omega) (by omega), nI_1, nI_mulI, nI_add, nI_1]
    exact ih (k + 1) f (by omega) (by omega)
theorem fig_ok {n row : Nat} (hn : n ≤ 3) (hr : row < 1000) : f_X11_figures (nI row) (nI n) = some (nI (FG n row)) := by
  unfold f_X11_figures
  exact fig_L hn hr n 0 fuel0 (by omega) (fuel_ge n (by omega))
theorem FG_1 (w : Nat) : FG 1 w = w % 9 + 1 := by
  show 0 + (w / 9 ^ 0 % 9 + 1) * 10 ^ 0 = _
  rw [Nat.div_one]; omega
theorem FG_2 (w : Nat) : FG 2 w = w % 9 + 1 + (w / 9 % 9 + 1) * 10 := by
  show FG 1 w + (w / 9 ^ 1 % 9 + 1) * 10 ^ 1 = _
  rw [FG_1, Nat.pow_one, Nat.pow_one]
theorem FG_3 (w : Nat) : FG 3 w = w % 9 + 1 + (w / 9 % 9 + 1) * 10 + (w / 81 % 9 + 1) * 100 := by
  show FG 2 w + (w / 9 ^ 2 % 9 + 1) * 10 ^ 2 = _
  rw [FG_2]
theorem nine {n : Nat} (h1 : 1 ≤ n) (h3 : n ≤ 3) : 9 ^ n = 9 ∨ 9 ^ n = 81 ∨ 9 ^ n = 729 := by
  have : n = 1 ∨ n = 2 ∨ n = 3 := by omega
  rcases this with e | e | e <;> subst e
  · exact Or.inl rfl
  · exact Or.inr (Or.inl rfl)
  · exact Or.inr (Or.inr rfl)
theorem FG_b {n w : Nat} (h1 : 1 ≤ n) (h3 : n ≤ 3) : FG n w < 1000 := by
  have : n = 1 ∨ n = 2 ∨ n = 3 := by omega
  rcases this with e | e | e <;> subst e
  · rw [FG_1]; omega
  · rw [FG_2]; omega
  · rw [FG_3]; omega
theorem FG_lt {n v w : Nat} (h1 : 1 ≤ n) (h3 : n ≤ 3) (hw : w < 9 ^ n) (h : v < w) : FG n v < FG n w := by
  have : n = 1 ∨ n = 2 ∨ n = 3 := by omega
  rcases this with e | e | e <;> subst e
  · have hw' : w < 9 := hw
    rw [FG_1, FG_1]; omega
  · have hw' : w < 81 := hw
    rw [FG_2, FG_2]; omega
  · have hw' : w < 729 := hw
    have e1 : v / 9 % 9 = v / 9 - 9 * (v / 81) := by omega
    have e2 : w / 9 % 9 = w / 9 - 9 * (w / 81) := by omega
    have e3 : v / 81 % 9 = v / 81 := by omega
    have e4 : w / 81 % 9 = w / 81 := by omega
    rw [FG_3, FG_3, e1, e2, e3, e4]
    omega
/-- the reference's unit behind j flies -/
def UU9 (n j : Nat) : Nat := if j < n then 9 ^ (n - 1 - j) else 0
theorem UU9_dec : ∀ n, n < 4 → ∀ j, j < 3 → j < n → 0 < UU9 n j ∧ UU9 n j < 100 ∧ UU9 n j / 9 = UU9 n (j + 1) ∧ UU9 n j = 9 ^ (n - 1 - j) := by decide
theorem inn_L {K : Mem → Int32 → Int32 → Int32 → Int32 → Int32 → Int32 → Option (Mem × Int32)} {x1 x3 x4 x5 x6 : Int32} {n row : Nat} (hn : n ≤ 3) (hr : row < 1000) : ∀ (j p : Nat) (b c : Mem) (s : Nat), j ≤ n → p = row / 9 ^ (n - j) → RUN j p b c s → ∀ fu,
    f_X12_round_L101 K (fu + j) b x1 x3 x4 x5 x6 (nI row) (nI 0) (nI (UU9 n 0)) = f_X12_round_L101 K fu c x1 x3 x4 x5 x6 (nI row) (nI s) (nI (UU9 n j)) := by
  intro j
  induction j with
  | zero =>
    intro p b c s hj hp run fu
    obtain ⟨rfl, rfl⟩ := run
    rfl
  | succ j ih =>
    intro p b c s hj hp run fu
    obtain ⟨c0, s0, k, r1, r2, rfl⟩ := run
    obtain ⟨d1, d2, d3, d4⟩ := UU9_dec n (by omega) j (by omega) (by omega)
    have e : n - j = n - (j + 1) + 1 := by omega
    have ep : p / 9 = row / 9 ^ (n - j) := by
      rw [hp, Nat.div_div_eq_div_mul, e, Nat.pow_succ]
    have l : row / UU9 n j ≤ row := Nat.div_le_self _ _
    have e3 : n - 1 - j = n - (j + 1) := by omega
    rw [show fu + (j + 1) = (fu + 1) + j by omega, ih (p / 9) b c0 s0 (by omega) ep r1 (fu + 1), f_X12_round_L101, if_neg (by rw [show (0 : Int32) = nI 0 from rfl, nI_leI (by omega) (by omega)]; omega),
      if_pos (nI_ne0 d1 (by omega)), pk_div (by omega) d1 (by omega),
      show nI (row / UU9 n j) - nI (row / UU9 n j) / (9 : Int32) * (9 : Int32) = nI (row / UU9 n j % 9) from pk_rem (d := 9) (by omega) (by omega) (by omega), d4, e3, ← hp, r2, Option.bind_some]
    rw [bd_eq, bd_eq, nI_add, ← e3, ← d4, show nI (UU9 n j) / (9 : Int32) = nI (UU9 n j / 9) from pk_div (d := 9) (by omega) (by omega) (by omega), d3]
theorem tail_k {K : Mem → Int32 → Int32 → Int32 → Int32 → Int32 → Int32 → Option (Mem × Int32)} {x3 x4 x5 x6 x7 x8 : Int32} {q k : Nat} {ρ c : Mem} (hk : k < 9) (r : RR q ρ c) (m : Nat) :
    f_X12_round_L101 K (m + 1) c (nI k) x3 x4 x5 x6 x7 x8 (nI 0) = if stB ρ k = 0 then (if x5 = -1 ∨ ¬ x5 ≤ x8 - 1 then K (LB c) (nI k) x3 x4 (x8 - 1) x7 (x7 + 1) else K (LB c) (nI k) x3 x4 x5 x6 (x7 + 1)) else K (LB c) (nI k) x3 x4 x5 x6 (x7 + 1) := by
  have s12 := st12 (ν := c) hk
  rw [← r.ou k hk] at s12
  have L156 : f_X12_round_L156 K c (nI k) x3 x4 x7 x8 = K (LB c) (nI k) x3 x4 (x8 - 1) x7 (x7 + 1) := by
    unfold f_X12_round_L156
    rw [bd_eq, back_ok, Option.bind_some]
  rw [f_X12_round_L101, if_pos (show nI 0 ≤ 0 by decide), s12, Option.bind_some]
  rw [show (if ρ 5 k = -1 then (1 : Int32) else 0) = stB ρ k from rfl]
  by_cases hs : stB ρ k = 0
  · rw [if_pos hs, if_pos hs]
    by_cases a : x5 = -1
    · rw [if_pos a, if_pos (Or.inl a), L156]
    · rw [if_neg a]
      by_cases b : x5 ≤ x8 - 1
      · rw [if_pos b, if_neg (fun h => by
          rcases h with h | h
          · exact a h
          · exact h b), back_ok, Option.bind_some]
      · rw [if_neg b, if_pos (Or.inr b), L156]
  · rw [if_neg hs, if_neg hs, back_ok, Option.bind_some]
