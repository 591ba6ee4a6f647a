/-- nobody that stands is at zero -/
def Set0 (ρ : Mem) : Prop := ∀ k, k < 9 → ρ 5 k = -1 → ¬ ρ 4 k = 0
theorem stB_0 (ρ : Mem) (k : Nat) : stB ρ k = 0 ↔ ¬ ρ 5 k = -1 := by
  unfold stB; split
  · simp_all
  · simp_all
def Scan (ρ ν : Mem) (r x : Nat) : Prop :=
    (∃ k, k < 9 ∧ (ρ 5 k = -1 ∧ ρ 4 k = 0) ∧ (∀ f, r < f → f_X4_leastAtZero_L2 f ρ (nI x) = some (ρ, nI k)) ∧
      ∀ g c, ∃ g', g ≤ g' ∧ f_X12_settle_L4 (g + r) ν c (nI x) = (f_X12_stirs ν (nI k)).bind fun q3 => f_X12_settle_L4 g' q3 (c + 1) (0 : Int32)) ∨
    (Set0 ρ ∧ (∀ f, r < f → f_X4_leastAtZero_L2 f ρ (nI x) = some (ρ, (-1 : Int32))) ∧ ∀ g c, f_X12_settle_L4 (g + r + 1) ν c (nI x) = some (ν, c))
theorem scan_L {q : Nat} {ρ ν : Mem} (h : RR q ρ ν) : ∀ (r x : Nat), x + r = 9 → (∀ k, k < x → ρ 5 k = -1 → ¬ ρ 4 k = 0) → Scan ρ ν r x := by
  intro r
  induction r with
  | zero =>
    intro x hx hb
    have e : (9 : Int32) ≤ nI x := by rw [show (9 : Int32) = nI 9 from rfl, nI_leI (by omega) (by omega)]; omega
    refine Or.inr ⟨fun k hk => hb k (by omega), fun f hf => ?_, fun g c => ?_⟩
    · obtain ⟨f, rfl⟩ : ∃ f', f = f' + 1 := ⟨f - 1, by omega⟩
      unfold f_X4_leastAtZero_L2
      rw [if_pos e]
    · unfold f_X12_settle_L4
      rw [if_pos e]
  | succ r ih =>
    intro x hx hb
    have hx9 : x < 9 := by omega
    have e : ¬ (9 : Int32) ≤ nI x := by rw [show (9 : Int32) = nI 9 from rfl, nI_leI (by omega) (by omega)]; omega
    have nx : nI x + (1 : Int32) = nI (x + 1) := nI_1 x
    have i1 : inb (nI x) 9 = true := in_k hx9 (by omega)
    have i2 : (nI x).toNatClampNeg = x := cl_I (by omega)
    have t3 := its_k ν 3 hx9 (show 3 < 5 by omega)
    have cl : ∀ f, f_X4_leastAtZero_L2 (f + 1) ρ (nI x) = if stB ρ x = 0 then f_X4_leastAtZero_L2 f ρ (nI (x + 1)) else if ρ 4 x = 0 then some (ρ, nI x) else f_X4_leastAtZero_L2 f ρ (nI (x + 1)) := by
      intro f
      rw [f_X4_leastAtZero_L2]
      rw [if_neg e, st4 hx9 (h.ob x hx9)]
      simp only [Option.bind_some]
      rw [nx, if_pos i1, i2]
    have rf : ∀ g c, f_X12_settle_L4 (g + 1) ν c (nI x) = if stB ρ x = 0 then f_X12_settle_L4 g ν c (nI (x + 1)) else if ρ 4 x = 0 then (f_X12_stirs ν (nI x)).bind fun q3 => f_X12_settle_L4 g q3 (c + 1) (0 : Int32) else f_X12_settle_L4 g ν c (nI (x + 1)) := by
      intro g c
      rw [f_X12_settle_L4]
      rw [if_neg e, st12 hx9, ← h.ou x hx9]
      simp only [Option.bind_some]
      rw [show f_X12_its ν (nI x) (3 : Int32) = some (ν, ν 1 (8 + 5 * x + 3)) from t3, ← h.le x hx9, nx]
      rfl
    -- one that isn't at zero, or doesn't stand, is passed by
    have skip : (∀ f, f_X4_leastAtZero_L2 (f + 1) ρ (nI x) = f_X4_leastAtZero_L2 f ρ (nI (x + 1))) → (∀ g c, f_X12_settle_L4 (g + 1) ν c (nI x) = f_X12_settle_L4 g ν c (nI (x + 1))) →
        (ρ 5 x = -1 → ¬ ρ 4 x = 0) → Scan ρ ν (r + 1) x := fun s1 s2 s3 => by
      have hb' : ∀ k, k < x + 1 → ρ 5 k = -1 → ¬ ρ 4 k = 0 := fun k hk => by
        rcases Nat.lt_or_ge k x with hl | hl
        · exact hb k hl
        · rw [show k = x by omega]; exact s3
      rcases ih (x + 1) (by omega) hb' with ⟨k, hk, hs, a, b⟩ | ⟨z, a, b⟩
      · refine Or.inl ⟨k, hk, hs, fun f hf => ?_, fun g c => ?_⟩
        · obtain ⟨f, rfl⟩ : ∃ f', f = f' + 1 := ⟨f - 1, by omega⟩
          rw [s1]; exact a f (by omega)
        · obtain ⟨g', h1, h3⟩ := b g c
          refine ⟨g', h1, ?_⟩
          rw [show g + (r + 1) = (g + r) + 1 by omega, s2]; exact h3
      · refine Or.inr ⟨z, fun f hf => ?_, fun g c => ?_⟩
        · obtain ⟨f, rfl⟩ : ∃ f', f = f' + 1 := ⟨f - 1, by omega⟩
          rw [s1]; exact a f (by omega)
        · rw [show g + (r + 1) + 1 = (g + r + 1) + 1 by omega, s2]; exact b g c
    by_cases hs : stB ρ x = 0
    · refine skip (fun f => ?_) (fun g c => ?_) (fun q => absurd q ((stB_0 ρ x).mp hs))
      · rw [cl, if_pos hs]
      · rw [rf, if_pos hs]
    · have hst : ρ 5 x = -1 := Decidable.of_not_not (fun q => hs ((stB_0 ρ x).mpr q))
      by_cases hz : ρ 4 x = 0
      · refine Or.inl ⟨x, hx9, ⟨hst, hz⟩, fun f hf => ?_, fun g c => ⟨g + r, by omega, ?_⟩⟩
        · obtain ⟨f, rfl⟩ : ∃ f', f = f' + 1 := ⟨f - 1, by omega⟩
          rw [cl, if_neg hs, if_pos hz]
        · rw [show g + (r + 1) = (g + r) + 1 by omega, rf, if_neg hs, if_pos hz]
      · refine skip (fun f => ?_) (fun g c => ?_) (fun _ => hz)
        · rw [cl, if_neg hs, if_neg hz]
        · rw [rf, if_neg hs, if_neg hz]
/-- settling: the same count, the same row, and nobody that stands at zero -/
def SE (q : Nat) (ρ ν : Mem) (a b : Mem × Int32) : Prop := a.2 = b.2 ∧ RR q a.1 b.1 ∧ Fr ρ ν a.1 b.1 ∧ Set0 a.1 ∧ (∃ n, n ≤ 9 ∧ a.2 = nI n)
theorem settle_L {q : Nat} (hq : q < 2 ^ 30) : ∀ (s c : Nat) (ρ ν : Mem) (f g : Nat), cnt ρ = s → c + s ≤ 9 → s < f → 20 * s + 20 ≤ g → RR q ρ ν →
    Sim (SE q ρ ν) ((f_X4_leastAtZero ρ).bind fun q1 => f_X4_settle_L7 f q1.1 (nI c) q1.2) (f_X12_settle_L4 g ν (nI c) (0 : Int32)) := by
  intro s
  induction s with
  | zero =>
    intro c ρ ν f g hs hc hf hg h
    obtain ⟨f, rfl⟩ : ∃ f', f = f' + 1 := ⟨f - 1, by omega⟩
    have nost : ∀ k, k < 9 → ¬ ρ 5 k = -1 := by
      intro k hk e
      have : cS ρ k = 1 := by unfold cS; rw [if_pos e]
      unfold cnt at hs
      have hh : k = 0 ∨ k = 1 ∨ k = 2 ∨ k = 3 ∨ k = 4 ∨ k = 5 ∨ k = 6 ∨ k = 7 ∨ k = 8 := by omega
      rcases hh with h | h | h | h | h | h | h | h | h <;> subst h <;> omega
    rcases scan_L h 9 0 (by omega) (fun k hk => by omega) with ⟨k, hk, ⟨hst, -⟩, -, -⟩ | ⟨z, a, b⟩
    · exact absurd hst (nost k hk)
    · unfold f_X4_leastAtZero
      rw [show (0 : Int32) = nI 0 from rfl, a fuel0 (fuel_ge 9 (by omega))]
      obtain ⟨g, rfl⟩ : ∃ g', g = g' + 9 + 1 := ⟨g - 10, by omega⟩
      rw [b]
      simp only [Option.bind_some]
      unfold f_X4_settle_L7
      rw [if_pos (show (-1 : Int32) < 0 by decide)]
      exact Sim.pure ⟨rfl, h, Fr.refl _ _, z, c, by omega, rfl⟩
  | succ s ih =>
    intro c ρ ν f g hs hc hf hg h
    obtain ⟨f, rfl⟩ : ∃ f', f = f' + 1 := ⟨f - 1, by omega⟩
    rcases scan_L h 9 0 (by omega) (fun k hk => by omega) with ⟨k, hk, ⟨hst, -⟩, a, b⟩ | ⟨z, a, b⟩
    · unfold f_X4_leastAtZero
      rw [show (0 : Int32) = nI 0 from rfl, a fuel0 (fuel_ge 9 (by omega))]
      obtain ⟨g, rfl⟩ : ∃ g', g = g' + 9 := ⟨g - 9, by omega⟩
      obtain ⟨g', hg', hb⟩ := b g (nI c)
      rw [hb]
      simp only [Option.bind_some]
      rw [f_X4_settle_L7, if_neg (nI_pos (show k < 2 ^ 31 by omega)), if_neg (show ¬ (9 : Int32) ≤ nI c by rw [show (9 : Int32) = nI 9 from rfl, nI_leI (by omega) (by omega)]; omega)]
      refine (stir_ok hq h hk hst).bind ?_
      rintro a1 b1 ⟨r1, f1, c1⟩
      rw [show nI c + (1 : Int32) = nI (c + 1) from nI_1 c]
      exact (ih (c + 1) a1 b1 f g' (by omega) (by omega) (by omega) (by omega) r1).mono fun x y ⟨e1, e2, e3, e4, e5⟩ => ⟨e1, e2, f1.trans e3, e4, e5⟩
    · unfold f_X4_leastAtZero
      rw [show (0 : Int32) = nI 0 from rfl, a fuel0 (fuel_ge 9 (by omega))]
      obtain ⟨g, rfl⟩ : ∃ g', g = g' + 9 + 1 := ⟨g - 10, by omega⟩
      rw [b]
      simp only [Option.bind_some]
      unfold f_X4_settle_L7
      rw [if_pos (show (-1 : Int32) < 0 by decide)]
      exact Sim.pure ⟨rfl, h, Fr.refl _ _, z, c, by omega, rfl⟩
theorem settle_ok {q : Nat} (hq : q < 2 ^ 30) {ρ ν : Mem} (h : RR q ρ ν) : Sim (SE q ρ ν) (f_X4_settle ρ) (f_X12_settle ν) := by
  have := settle_L hq (cnt ρ) 0 ρ ν fuel0 fuel0 rfl (by have := cnt_le ρ; omega) (fuel_ge _ (by have := cnt_le ρ; omega)) (Nat.le_of_lt (fuel_ge _ (by have := cnt_le ρ; omega))) h
  exact this
/-- a row where nobody stands at zero settles to itself -/
theorem settle_no {q : Nat} {ρ ν : Mem} (h : RR q ρ ν) (z : Set0 ρ) : f_X4_settle ρ = some (ρ, 0) := by
  rcases scan_L h 9 0 (by omega) (fun k hk => by omega) with ⟨k, hk, ⟨hst, hz⟩, a, b⟩ | ⟨z, a, b⟩
  · exact absurd hz (z k hk hst)
  · unfold f_X4_settle f_X4_leastAtZero
    rw [show (0 : Int32) = nI 0 from rfl, a fuel0 (fuel_ge 9 (by omega))]
    simp only [Option.bind_some]
    obtain ⟨f, hf⟩ : ∃ f', fuel0 = f' + 1 := ⟨99999, rfl⟩
    rw [hf, f_X4_settle_L7, if_pos (show (-1 : Int32) < 0 by decide)]
