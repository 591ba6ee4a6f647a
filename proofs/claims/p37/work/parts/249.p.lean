theorem un_dec : ∀ n, n < 4 → ∀ f, f < 3 → f < n → inb ((nI n - (1 : Int32)) - nI f) 4 = true ∧ tabN ((nI n - (1 : Int32)) - nI f).toNatClampNeg = nI (9 ^ (n - 1 - f)) ∧ 0 < 9 ^ (n - 1 - f) ∧ 9 ^ (n - 1 - f) < 100 := by decide +kernel
theorem fr_k {f : Nat} (hf : f < 3) (g : Nat) (μ : Mem) (x1 x2 : Int32) : f_X11_flyRow_L2 (g + 1) μ x1 x2 (nI f) = (if x2 ≤ nI f then some μ else (if inb ((x2 - (1 : Int32)) - nI f) 4 = true then (if ¬ tabN ((x2 - (1 : Int32)) - nI f).toNatClampNeg = 0 then
    (if (x1 - x1 / tabN ((x2 - (1 : Int32)) - nI f).toNatClampNeg * tabN ((x2 - (1 : Int32)) - nI f).toNatClampNeg) = 0 then (f_X4_copyFrom (sub (QL (f + 1)) μ)).bind fun q => (f_X4_flyAt (sub (SL (f + 1)) (put (QL (f + 1)) μ q))
        ((x1 / tabN ((x2 - (1 : Int32)) - nI f).toNatClampNeg) - (x1 / tabN ((x2 - (1 : Int32)) - nI f).toNatClampNeg) / (9 : Int32) * (9 : Int32))).bind fun w => f_X11_flyRow_L2 g (put (SL (f + 1)) (put (QL (f + 1)) μ q) w.1) x1 x2 (nI f + 1)
      else f_X11_flyRow_L2 g μ x1 x2 (nI f + 1)) else none) else none)) := by
  have : f = 0 ∨ f = 1 ∨ f = 2 := by omega
  rcases this with e | e | e <;> subst e
  · exact fr_0 g μ x1 x2
  · exact fr_1 g μ x1 x2
  · exact fr_2 g μ x1 x2
theorem fr_step {n f row : Nat} (hn : n < 4) (hf : f < n) (hr : row < 1000) (g : Nat) (μ : Mem) : f_X11_flyRow_L2 (g + 1) μ (nI row) (nI n) (nI f) =
    (if row % 9 ^ (n - 1 - f) = 0 then (f_X4_copyFrom (sub (QL (f + 1)) μ)).bind fun q => (f_X4_flyAt (sub (SL (f + 1)) (put (QL (f + 1)) μ q)) (nI (row / 9 ^ (n - 1 - f) % 9))).bind fun w =>
        f_X11_flyRow_L2 g (put (SL (f + 1)) (put (QL (f + 1)) μ q) w.1) (nI row) (nI n) (nI (f + 1))
      else f_X11_flyRow_L2 g μ (nI row) (nI n) (nI (f + 1))) := by
  obtain ⟨u1, u2, u3, u4⟩ := un_dec n hn f (by omega) hf
  have l : row / 9 ^ (n - 1 - f) ≤ row := Nat.div_le_self _ _
  rw [fr_k (by omega), if_neg (by rw [nI_leI (by omega) (by omega)]; omega), if_pos u1, u2, if_pos (nI_ne0 u3 (by omega)), pk_rem (by omega) u3 (by omega), pk_div (by omega) u3 (by omega), nI_1,
    show nI (row / 9 ^ (n - 1 - f)) - nI (row / 9 ^ (n - 1 - f)) / (9 : Int32) * (9 : Int32) = nI (row / 9 ^ (n - 1 - f) % 9) from pk_rem (d := 9) (by omega) (by omega) (by omega)]
  have lt : row % 9 ^ (n - 1 - f) < 9 ^ (n - 1 - f) := Nat.mod_lt _ u3
  by_cases h : row % 9 ^ (n - 1 - f) = 0
  · rw [if_pos h, if_pos ((zero_k (by omega)).mpr h)]
  · rw [if_neg h, if_neg (fun k => h ((zero_k (by omega)).mp k))]
theorem div_same {row u : Nat} (hu : 0 < u) (h : ¬ row % u = 0) : (row - 1) / u = row / u := by
  have e := Nat.div_add_mod row u
  have l := Nat.mod_lt row hu
  refine Nat.div_eq_of_lt_le ?_ ?_
  · rw [Nat.mul_comm]; omega
  · rw [Nat.succ_mul, Nat.mul_comm]; omega
theorem off_keep {j k : Nat} (hj : j < 4) (hk : k < 4) (h : j ≠ k) {μ μ' : Mem} (o : Off (DL k) μ μ') : Off [7, 11] (sub (SL j) μ) (sub (SL j) μ') := by
  intro i hi
  show μ' ((SL j).getD i 0) = μ ((SL j).getD i 0)
  refine o _ ?_
  by_cases hl : i < 22
  · exact SL_far hj hk h hl hi
  · rw [getD_big (by rw [SL_len j hj]; omega)]
    exact DL_0 k hk
theorem row_L {q C n row : Nat} {ρ0 : Mem} {g : Nat → Int32} (hq : q ≤ 9999) (hn : n < 4) (hr : row < 1000) : ∀ (r f : Nat) (μ : Mem) (fu : Nat), f + r = n → r < fu →
    (∀ j, j ≤ f → VAL q C ρ0 g j (row / 9 ^ (n - j)) (sub (SL j) μ)) → (∀ j, f < j → j ≤ n → row ≠ 0 → VAL q C ρ0 g j ((row - 1) / 9 ^ (n - j)) (sub (SL j) μ)) →
    ∃ μ', f_X11_flyRow_L2 fu μ (nI row) (nI n) (nI f) = some μ' ∧ (∀ j, j ≤ n → VAL q C ρ0 g j (row / 9 ^ (n - j)) (sub (SL j) μ')) ∧ Off LA μ μ' := by
  intro r
  induction r with
  | zero =>
    intro f μ fu hf hfu v1 v2
    obtain ⟨fu, rfl⟩ : ∃ f', fu = f' + 1 := ⟨fu - 1, by omega⟩
    obtain rfl : f = n := by omega
    refine ⟨μ, ?_, v1, Off.refl _ _⟩
    rw [f_X11_flyRow_L2, if_pos (Int32.le_refl _)]
  | succ r ih =>
    intro f μ fu hf hfu v1 v2
    obtain ⟨fu, rfl⟩ : ∃ f', fu = f' + 1 := ⟨fu - 1, by omega⟩
    have hfn : f < n := by omega
    obtain ⟨-, -, u3, u4⟩ := un_dec n hn f (by omega) hfn
    have e1 : n - (f + 1) = n - 1 - f := by omega
    rw [fr_step hn hfn hr]
    by_cases h : row % 9 ^ (n - 1 - f) = 0
    · rw [if_pos h, copy4, Option.bind_some]
      have v := v1 f (Nat.le_refl _)
      have ed : row / 9 ^ (n - f) = row / 9 ^ (n - 1 - f) / 9 := by
        rw [Nat.div_div_eq_div_mul, show n - f = n - 1 - f + 1 by omega, Nat.pow_succ]
      rw [ed] at v
      obtain ⟨a, y, w1, w2, w3⟩ := v.step hq (CL_S f (by omega))
      rw [w1, Option.bind_some]
      have o1 : Off (DL (f + 1)) μ (put (QL (f + 1)) μ (C4 (sub (QL (f + 1)) μ))) := copy_off (QL_D (f + 1) (by omega)) μ
      have o2 : Off (DL (f + 1)) (put (QL (f + 1)) μ (C4 (sub (QL (f + 1)) μ))) (put (SL (f + 1)) (put (QL (f + 1)) μ (C4 (sub (QL (f + 1)) μ))) a) := put_offG (SL_D (f + 1) (by omega)) w2
      have o3 := o1.trans o2
      have A : ∀ j, j ≤ f + 1 → VAL q C ρ0 g j (row / 9 ^ (n - j)) (sub (SL j) (put (SL (f + 1)) (put (QL (f + 1)) μ (C4 (sub (QL (f + 1)) μ))) a)) := by
        intro j hj
        by_cases e : j = f + 1
        · subst e
          rw [sub_putG (SL_ap (f + 1) (by omega)) (by decide) w2, e1]
          exact w3
        · exact (v1 j (by omega)).keep (off_keep (by omega) (by omega) e o3)
      have B : ∀ j, f + 1 < j → j ≤ n → row ≠ 0 → VAL q C ρ0 g j ((row - 1) / 9 ^ (n - j)) (sub (SL j) (put (SL (f + 1)) (put (QL (f + 1)) μ (C4 (sub (QL (f + 1)) μ))) a)) := by
        intro j h1 h2 h3
        exact (v2 j (by omega) h2 h3).keep (off_keep (by omega) (by omega) (by omega) o3)
      obtain ⟨μ', m1, m2, m3⟩ := ih (f + 1) (put (SL (f + 1)) (put (QL (f + 1)) μ (C4 (sub (QL (f + 1)) μ))) a) fu (by omega) (by omega) A B
      exact ⟨μ', m1, m2, (o3.mono (DL_LA (f + 1) (by omega))).trans m3⟩
    · rw [if_neg h]
      refine ih (f + 1) μ fu (by omega) (by omega) (fun j hj => ?_) (fun j h1 h2 h3 => v2 j (by omega) h2 h3)
      by_cases e : j = f + 1
      · subst e
        have hr0 : row ≠ 0 := fun e => h (by rw [e, Nat.zero_mod])
        have := v2 (f + 1) (by omega) (by omega) hr0
        rw [e1, div_same u3 h] at this
        rw [e1]
        exact this
      · exact v1 j (by omega)
theorem flyRow_ok {q C n row : Nat} {ρ0 : Mem} {g : Nat → Int32} (hq : q ≤ 9999) (hn : n < 4) (hr : row < 1000) {μ : Mem} (v0 : VAL q C ρ0 g 0 (row / 9 ^ n) (sub (SL 0) μ)) (v : ∀ j, 0 < j → j ≤ n → row ≠ 0 → VAL q C ρ0 g j ((row - 1) / 9 ^ (n - j)) (sub (SL j) μ)) :
    ∃ μ', f_X11_flyRow μ (nI row) (nI n) = some μ' ∧ (∀ j, j ≤ n → VAL q C ρ0 g j (row / 9 ^ (n - j)) (sub (SL j) μ')) ∧ Off LA μ μ' := by
  unfold f_X11_flyRow
  refine row_L hq hn hr n 0 μ fuel0 (by omega) (fuel_ge n (by omega)) (fun j hj => ?_) v
  obtain rfl : j = 0 := by omega
  exact v0
