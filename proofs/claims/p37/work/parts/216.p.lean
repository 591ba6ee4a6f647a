theorem fuel_ge (n : Nat) (h : n ≤ 1000) : n < fuel0 := Nat.lt_of_le_of_lt h fuel_big
theorem ST.refl {q : Nat} {ρ ν : Mem} (h : RR q ρ ν) : ST q ρ ν ρ ν := ⟨h, Fr.refl _ _, Off.refl _ _⟩
theorem ST.trans {q : Nat} {ρ ν a b c d : Mem} (h : ST q ρ ν a b) (k : ST q a b c d) : ST q ρ ν c d := ⟨k.1, h.2.1.trans k.2.1, h.2.2.trans k.2.2⟩
theorem stir_L {q k1 : Nat} (h1 : k1 < 9) : ∀ (r x : Nat) (ρ ν : Mem) (f g : Nat), x + r = 9 → r < f → r < g → RR q ρ ν →
    Sim (ST q ρ ν) (f_X4_stir_L12 f ρ (nI k1) (nI x)) (f_X12_stirs_L14 g ν (nI k1) (nI x)) := by
  intro r
  induction r with
  | zero =>
    intro x ρ ν f g hx hf hg h
    obtain ⟨f, rfl⟩ : ∃ f', f = f' + 1 := ⟨f - 1, by omega⟩
    obtain ⟨g, rfl⟩ : ∃ g', g = g' + 1 := ⟨g - 1, by omega⟩
    unfold f_X4_stir_L12 f_X12_stirs_L14
    have e : (9 : Int32) ≤ nI x := by rw [show (9 : Int32) = nI 9 from rfl, nI_leI (by omega) (by omega)]; omega
    rw [if_pos e, if_pos e]
    exact Sim.pure (ST.refl h)
  | succ r ih =>
    intro x ρ ν f g hx hf hg h
    obtain ⟨f, rfl⟩ : ∃ f', f = f' + 1 := ⟨f - 1, by omega⟩
    obtain ⟨g, rfl⟩ : ∃ g', g = g' + 1 := ⟨g - 1, by omega⟩
    have hx9 : x < 9 := by omega
    unfold f_X4_stir_L12 f_X12_stirs_L14
    have e : ¬ (9 : Int32) ≤ nI x := by rw [show (9 : Int32) = nI 9 from rfl, nI_leI (by omega) (by omega)]; omega
    rw [if_neg e, if_neg e, st4 hx9 (h.ob x hx9), st12 hx9, ← h.ou x hx9]
    simp only [Option.bind_some]
    rw [show (if ρ 5 x = -1 then (1 : Int32) else 0) = stB ρ x from rfl]
    have nx : nI x + (1 : Int32) = nI (x + 1) := nI_1 x
    rw [nx]
    by_cases hs : stB ρ x = 0
    · rw [if_pos hs, if_pos hs]
      exact ih (x + 1) ρ ν f g (by omega) (by omega) (by omega) h
    · rw [if_neg hs, if_neg hs]
      exact one_ok h h1 hx9 (K4 := fun a => f_X4_stir_L12 f a (nI k1) (nI (x + 1))) (K12 := fun b => f_X12_stirs_L14 g b (nI k1) (nI (x + 1)))
        (fun a b t => (ih (x + 1) a b f g (by omega) (by omega) (by omega) t.1).mono fun c d k => t.trans k)
/-- how many stand -/
def cS (ρ : Mem) (k : Nat) : Nat := if ρ 5 k = -1 then 1 else 0
def cnt (ρ : Mem) : Nat := cS ρ 0 + cS ρ 1 + cS ρ 2 + cS ρ 3 + cS ρ 4 + cS ρ 5 + cS ρ 6 + cS ρ 7 + cS ρ 8
theorem cnt_le (ρ : Mem) : cnt ρ ≤ 9 := by
  have : ∀ k, cS ρ k ≤ 1 := fun k => by unfold cS; split <;> omega
  have h0 := this 0; have h1 := this 1; have h2 := this 2; have h3 := this 3; have h4 := this 4
  have h5 := this 5; have h6 := this 6; have h7 := this 7; have h8 := this 8
  unfold cnt; omega
theorem cnt_5 {ρ a : Mem} (h : a 5 = ρ 5) : cnt a = cnt ρ := by unfold cnt cS; rw [h]
theorem cnt_dec {ρ a : Mem} {k : Nat} (hk : k < 9) (hs : ρ 5 k = -1) (hn : ¬ a 5 k = -1) (ho : ∀ i, i ≠ k → a 5 i = ρ 5 i) : cnt a + 1 = cnt ρ := by
  have e : ∀ i, i ≠ k → cS a i = cS ρ i := fun i hi => by unfold cS; rw [ho i hi]
  have e1 : cS ρ k = 1 := by unfold cS; rw [if_pos hs]
  have e2 : cS a k = 0 := by unfold cS; rw [if_neg hn]
  unfold cnt
  have : k = 0 ∨ k = 1 ∨ k = 2 ∨ k = 3 ∨ k = 4 ∨ k = 5 ∨ k = 6 ∨ k = 7 ∨ k = 8 := by omega
  rcases this with h | h | h | h | h | h | h | h | h <;> subst h
  · rw [e 1 (by decide), e 2 (by decide), e 3 (by decide), e 4 (by decide), e 5 (by decide), e 6 (by decide), e 7 (by decide), e 8 (by decide), e1, e2]; omega
  · rw [e 0 (by decide), e 2 (by decide), e 3 (by decide), e 4 (by decide), e 5 (by decide), e 6 (by decide), e 7 (by decide), e 8 (by decide), e1, e2]; omega
  · rw [e 0 (by decide), e 1 (by decide), e 3 (by decide), e 4 (by decide), e 5 (by decide), e 6 (by decide), e 7 (by decide), e 8 (by decide), e1, e2]; omega
  · rw [e 0 (by decide), e 1 (by decide), e 2 (by decide), e 4 (by decide), e 5 (by decide), e 6 (by decide), e 7 (by decide), e 8 (by decide), e1, e2]; omega
  · rw [e 0 (by decide), e 1 (by decide), e 2 (by decide), e 3 (by decide), e 5 (by decide), e 6 (by decide), e 7 (by decide), e 8 (by decide), e1, e2]; omega
  · rw [e 0 (by decide), e 1 (by decide), e 2 (by decide), e 3 (by decide), e 4 (by decide), e 6 (by decide), e 7 (by decide), e 8 (by decide), e1, e2]; omega
  · rw [e 0 (by decide), e 1 (by decide), e 2 (by decide), e 3 (by decide), e 4 (by decide), e 5 (by decide), e 7 (by decide), e 8 (by decide), e1, e2]; omega
  · rw [e 0 (by decide), e 1 (by decide), e 2 (by decide), e 3 (by decide), e 4 (by decide), e 5 (by decide), e 6 (by decide), e 8 (by decide), e1, e2]; omega
  · rw [e 0 (by decide), e 1 (by decide), e 2 (by decide), e 3 (by decide), e 4 (by decide), e 5 (by decide), e 6 (by decide), e 7 (by decide), e1, e2]
/-- out of k set on both sides -/
theorem RR.out {q : Nat} {ρ ν : Mem} (h : RR q ρ ν) {k : Nat} {v : Int32} (hk : k < 9) (hv : v = -1 ∨ 0 ≤ v) :
    RR q (upA ρ 5 (upd (ρ 5) k v)) (upA ν 1 (upd (ν 1) (8 + 5 * k + 4) v)) ∧ Fr ρ ν (upA ρ 5 (upd (ρ 5) k v)) (upA ν 1 (upd (ν 1) (8 + 5 * k + 4) v)) := by
  have fr : Fr ρ ν (upA ρ 5 (upd (ρ 5) k v)) (upA ν 1 (upd (ν 1) (8 + 5 * k + 4) v)) := by
    refine ⟨Off.upA (by decide), fun i _ => by rw [upA_o _ _ (by decide)], Off.upA (by decide), fun i hi hj => ?_⟩
    rw [upA_s, upd_o _ _ (by omega)]
  refine ⟨h.step fr ?_ ?_ ?_ ?_ ?_ ?_, fr⟩
  · rw [upA_o _ _ (by decide)]; exact h.mi
  · rw [upA_s, upd_o _ _ (by omega)]; exact h.mj
  · intro i hi
    rw [upA_o _ _ (by decide), upA_s, upd_o _ _ (by omega)]; exact h.le i hi
  · intro i hi
    rw [upA_s, upA_s]
    by_cases e : i = k
    · rw [e, upd_s, upd_s]
    · rw [upd_o _ _ e, upd_o _ _ (by omega)]; exact h.ou i hi
  · intro i hi
    rw [upA_o _ _ (by decide)]; exact h.lb i hi
  · intro i hi
    rw [upA_s]
    by_cases e : i = k
    · rw [e, upd_s]; exact hv
    · rw [upd_o _ _ e]; exact h.ob i hi
theorem stir_ok {q : Nat} (hq : q < 2 ^ 30) {ρ ν : Mem} (h : RR q ρ ν) {k : Nat} (hk : k < 9) (hs : ρ 5 k = -1) :
    Sim (fun a b => RR q a b ∧ Fr ρ ν a b ∧ cnt a + 1 = cnt ρ) (f_X4_stir ρ (nI k)) (f_X12_stirs ν (nI k)) := by
  unfold f_X4_stir f_X12_stirs
  rw [if_pos (in_k hk (by omega)), cl_I (show k < 2 ^ 31 by omega), if_pos (show inb (0 : Int32) 387 = true by decide), show (0 : Int32).toNatClampNeg = 0 by decide,
    h.mi, h.mj, show (4 : Int32) = nI 4 from rfl, lays_k ν 4 _ hk (by omega)]
  simp only [Option.bind_some, bd]
  have hv : nI q = -1 ∨ 0 ≤ nI q := Or.inr (nI_pos' (by omega))
  obtain ⟨r, f⟩ := h.out hk hv
  rw [show (0 : Int32) = nI 0 from rfl]
  refine (stir_L hk 9 0 _ _ fuel0 fuel0 (by omega) (fuel_ge 9 (by omega)) (fuel_ge 9 (by omega)) r).mono ?_
  rintro a b ⟨r2, f2, o2⟩
  refine ⟨r2, f.trans f2, ?_⟩
  rw [cnt_5 (o2 5 (by decide))]
  refine cnt_dec hk hs ?_ ?_
  · rw [upA_s, upd_s]
    intro e
    have := nI_pos' (n := q) (by omega)
    rw [e] at this
    exact absurd this (by decide)
  · intro i hi
    rw [upA_s, upd_o _ _ hi]
