/-- the best so far, in both shapes -/
def BR (n row : Nat) (best x5 x6 : Int32) : Prop := (best = -1 ∧ x5 = -1) ∨ ∃ o w, o ≤ 8 ∧ w < row ∧ best = nI (o * 1000 + FG n w) ∧ x5 = nI o ∧ x6 = nI w
theorem BR.up {n row : Nat} {best x5 x6 : Int32} (h : BR n row best x5 x6) : BR n (row + 1) best x5 x6 := by
  rcases h with h | ⟨o, w, h1, h2, h3, h4, h5⟩
  · exact Or.inl h
  · exact Or.inr ⟨o, w, h1, by omega, h3, h4, h5⟩
theorem best_L {q C n k : Nat} {ρ0 μ0 ν0 : Mem} {x3 : Int32} (hq : q ≤ 9999) (h1 : 1 ≤ n) (h3 : n ≤ 3) (hk : k < 9) (hk0 : ρ0 5 k = -1) (hC : C = cnt ρ0) (R0 : Rel μ0 ν0) :
    ∀ (r row : Nat) (μ b : Mem) (best x5 x6 : Int32) (f g : Nat), row + r = 9 ^ n → r < f → r < g → FA μ0 ν0 μ b → Held b b → b 1 = ν0 1 → VAL q C ρ0 (ν0 1) 0 0 (sub (SL 0) μ) →
      (∀ j, 0 < j → j ≤ n → row ≠ 0 → VAL q C ρ0 (ν0 1) j ((row - 1) / 9 ^ (n - j)) (sub (SL j) μ)) → BR n row best x5 x6 →
      ∃ μ' b' best' x5' x6', f_X11_bestRound_L33 f μ (nI k) (nI n) (nI C) best (nI row) = some (μ', best') ∧ f_X12_round_L84 g b (nI k) x3 (nI (9 ^ n)) x5 x6 (nI row) = f_X12_round_L84 1 b' (nI k) x3 (nI (9 ^ n)) x5' x6' (nI (9 ^ n)) ∧
        FA μ0 ν0 μ' b' ∧ BR n (9 ^ n) best' x5' x6' := by
  have n9 := nine h1 h3
  have hn : n < 4 := by omega
  intro r
  induction r with
  | zero =>
    intro row μ b best x5 x6 f g hr hf hg fa hb b1 v0 v br
    obtain ⟨f, rfl⟩ : ∃ f', f = f' + 1 := ⟨f - 1, by omega⟩
    obtain ⟨g, rfl⟩ : ∃ g', g = g' + 1 := ⟨g - 1, by omega⟩
    have er : row = 9 ^ n := by omega
    refine ⟨μ, b, best, x5, x6, ?_, ?_, fa, er ▸ br⟩
    · rw [br_k h1 h3, er, if_pos (Int32.le_refl _)]
    · rw [er, f_X12_round_L84, f_X12_round_L84, if_pos (Int32.le_refl _), if_pos (Int32.le_refl _)]
  | succ r ih =>
    intro row μ b best x5 x6 f g hr hf hg fa hb b1 v0 v br
    obtain ⟨f, rfl⟩ : ∃ f', f = f' + 1 := ⟨f - 1, by omega⟩
    obtain ⟨g, rfl⟩ : ∃ g', g = g' + 1 := ⟨g - 1, by omega⟩
    have hrow : row < 9 ^ n := by omega
    have hr1000 : row < 1000 := by omega
    have ne : ¬ nI (9 ^ n) ≤ nI row := by rw [nI_leI (by omega) (by omega)]; omega
    have v0' : VAL q C ρ0 (ν0 1) 0 (row / 9 ^ n) (sub (SL 0) μ) := by rw [Nat.div_eq_of_lt hrow]; exact v0
    obtain ⟨μ1, m1, m2, m3⟩ := flyRow_ok hq hn hr1000 v0' v
    have vn := m2 n (Nat.le_refl _)
    rw [Nat.sub_self, Nat.pow_zero, Nat.div_one] at vn
    obtain ⟨c, s, run, rr, zz, oo, hi, cs⟩ := vn.2 b b1
    have hc : Held b c := ⟨oo.mono (by decide), fun i hi2 => by rw [oo 3 (by decide)]; exact hb.2.1 i hi2, fun i hi2 => by rw [hi i hi2, b1]⟩
    have fa' : FA μ0 ν0 μ1 (LB c) := ⟨fa.1.trans m3, fa.2.trans hc.back.2⟩
    have b1' : LB c 1 = ν0 1 := hc.back.1.trans b1
    have v0n : VAL q C ρ0 (ν0 1) 0 0 (sub (SL 0) μ1) := by
      have := m2 0 (by omega)
      rw [Nat.sub_zero, Nat.div_eq_of_lt hrow] at this
      exact this
    have vj : ∀ j, 0 < j → j ≤ n → row + 1 ≠ 0 → VAL q C ρ0 (ν0 1) j ((row + 1 - 1) / 9 ^ (n - j)) (sub (SL j) μ1) := fun j _ h2 _ => by
      rw [Nat.add_sub_cancel]
      exact m2 j h2
    have next : ∀ best' x5' x6', BR n (row + 1) best' x5' x6' → ∃ μ' b' best'' x5'' x6'', f_X11_bestRound_L33 f μ1 (nI k) (nI n) (nI C) best' (nI (row + 1)) = some (μ', best'') ∧
        f_X12_round_L84 g (LB c) (nI k) x3 (nI (9 ^ n)) x5' x6' (nI (row + 1)) = f_X12_round_L84 1 b' (nI k) x3 (nI (9 ^ n)) x5'' x6'' (nI (9 ^ n)) ∧ FA μ0 ν0 μ' b' ∧ BR n (9 ^ n) best'' x5'' x6'' :=
      fun best' x5' x6' br' => ih (row + 1) μ1 (LB c) best' x5' x6' f g (by omega) (by omega) (by omega) fa' hc.self b1' v0n vj br'
    -- the class
    have cls : f_X11_bestRound_L33 (f + 1) μ (nI k) (nI n) (nI C) best (nI row) = (if stB (sub (SL n) μ1) k = 0 then
        (if best < 0 then f_X11_bestRound_L33 f μ1 (nI k) (nI n) (nI C) ((((nI C - (1 : Int32)) - nI (cnt (sub (SL n) μ1))) * (1000 : Int32)) + nI (FG n row)) (nI (row + 1))
          else (if best ≤ (((nI C - (1 : Int32)) - nI (cnt (sub (SL n) μ1))) * (1000 : Int32)) + nI (FG n row) then f_X11_bestRound_L33 f μ1 (nI k) (nI n) (nI C) best (nI (row + 1))
            else f_X11_bestRound_L33 f μ1 (nI k) (nI n) (nI C) ((((nI C - (1 : Int32)) - nI (cnt (sub (SL n) μ1))) * (1000 : Int32)) + nI (FG n row)) (nI (row + 1))))
        else f_X11_bestRound_L33 f μ1 (nI k) (nI n) (nI C) best (nI (row + 1))) := by
      rw [br_k h1 h3, if_neg ne, m1, Option.bind_some, st4 hk (rr.ob k hk), Option.bind_some, put_self, many4_ok rr, nI_1]
      by_cases hs : stB (sub (SL n) μ1) k = 0
      · rw [if_pos hs, if_pos hs, Option.bind_some, fig_ok h3 hr1000, Option.bind_some, put_self]
      · rw [if_neg hs, if_neg hs]
    -- the reference
    have ref : f_X12_round_L84 (g + 1) b (nI k) x3 (nI (9 ^ n)) x5 x6 (nI row) = (if stB (sub (SL n) μ1) k = 0 then (if x5 = -1 ∨ ¬ x5 ≤ nI s - 1 then f_X12_round_L84 g (LB c) (nI k) x3 (nI (9 ^ n)) (nI s - 1) (nI row) (nI (row + 1))
        else f_X12_round_L84 g (LB c) (nI k) x3 (nI (9 ^ n)) x5 x6 (nI (row + 1))) else f_X12_round_L84 g (LB c) (nI k) x3 (nI (9 ^ n)) x5 x6 (nI (row + 1))) := by
      obtain ⟨m, hm⟩ : ∃ m, fuel0 = (m + 1) + n := ⟨fuel0 - 1 - n, by have := fuel_big; omega⟩
      have u0 : nI (9 ^ n) / (9 : Int32) = nI (UU9 n 0) := by
        rw [show nI (9 ^ n) / (9 : Int32) = nI (9 ^ n / 9) from pk_div (d := 9) (by omega) (by omega) (by omega)]
        have : n = 1 ∨ n = 2 ∨ n = 3 := by omega
        rcases this with e | e | e <;> subst e <;> rfl
      have un : UU9 n n = 0 := by unfold UU9; rw [if_neg (Nat.lt_irrefl _)]
      have I : f_X12_round_L101 (f_X12_round_L84 g) (m + 1 + n) b (nI k) x3 (nI (9 ^ n)) x5 x6 (nI row) (0 : Int32) (nI (UU9 n 0)) = _ := inn_L (K := f_X12_round_L84 g) (x1 := nI k) (x3 := x3) (x4 := nI (9 ^ n)) (x5 := x5) (x6 := x6) h3 hr1000 n row b c s (Nat.le_refl _) (by rw [Nat.sub_self, Nat.pow_zero, Nat.div_one]) run (m + 1)
      rw [f_X12_round_L84, if_neg ne, bd_eq, u0, hm, I, un, tail_k hk rr, nI_1]
    have s9 : s ≤ 9 := by rw [hC] at cs; have := cnt_le ρ0; omega
    rw [cls, ref]
    by_cases hs : stB (sub (SL n) μ1) k = 0
    · -- it stirs: s is not 0
      have s1 : 1 ≤ s := by
        apply Decidable.byContradiction
        intro h0
        have e := vn.1.same (by omega) (by omega) k hk
        have := (stB_0 (sub (SL n) μ1) k).mp hs
        rw [e] at this
        exact this hk0
      have oth : ((nI C - (1 : Int32)) - nI (cnt (sub (SL n) μ1))) = nI (s - 1) := by
        rw [show (1 : Int32) = nI 1 from rfl, nI_subI (by omega), nI_subI (by omega)]
        congr 1; omega
      have fd : (((nI C - (1 : Int32)) - nI (cnt (sub (SL n) μ1))) * (1000 : Int32)) + nI (FG n row) = nI ((s - 1) * 1000 + FG n row) := by
        rw [oth, show (1000 : Int32) = nI 1000 from rfl, nI_mulI, nI_add]
      have s8 : nI s - 1 = nI (s - 1) := by rw [show (1 : Int32) = nI 1 from rfl, nI_subI s1]
      have fb := FG_b (w := row) h1 h3
      rw [if_pos hs, if_pos hs, fd, s8]
      rcases br with ⟨rfl, rfl⟩ | ⟨o, w, o8, hw, rfl, rfl, rfl⟩
      · rw [if_pos (show (-1 : Int32) < 0 by decide), if_pos (Or.inl rfl)]
        exact next _ _ _ (Or.inr ⟨s - 1, row, by omega, by omega, rfl, rfl, rfl⟩)
      · have fw := FG_b (w := w) h1 h3
        have lt := FG_lt h1 h3 hrow hw
        have bp : ¬ nI (o * 1000 + FG n w) < 0 := nI_pos (by omega)
        have l1 : nI (o * 1000 + FG n w) ≤ nI ((s - 1) * 1000 + FG n row) ↔ o ≤ s - 1 := by
          rw [nI_leI (by omega) (by omega)]; omega
        have l2 : nI o ≤ nI (s - 1) ↔ o ≤ s - 1 := nI_leI (by omega) (by omega)
        rw [if_neg bp]
        by_cases hle : o ≤ s - 1
        · rw [if_pos (l1.mpr hle), if_neg (fun h => by
            rcases h with h | h
            · exact nI_ne (by omega) h
            · exact h (l2.mpr hle))]
          exact next _ _ _ (Or.inr ⟨o, w, o8, by omega, rfl, rfl, rfl⟩)
        · rw [if_neg (fun h => hle (l1.mp h)), if_pos (Or.inr (fun h => hle (l2.mp h)))]
          exact next _ _ _ (Or.inr ⟨s - 1, row, by omega, by omega, rfl, rfl, rfl⟩)
    · rw [if_neg hs, if_neg hs]
      exact next _ _ _ br.up
