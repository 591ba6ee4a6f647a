theorem RR.min {q : Nat} {ρ ν : Mem} (h : RR q ρ ν) :
    RR (q + 1) (upA ρ 0 (upd (ρ 0) 6 (ρ 0 6 + 1))) (upA ν 1 (upd (ν 1) 0 (ν 1 0 + 1))) ∧ Fr ρ ν (upA ρ 0 (upd (ρ 0) 6 (ρ 0 6 + 1))) (upA ν 1 (upd (ν 1) 0 (ν 1 0 + 1))) := by
  have fr : Fr ρ ν (upA ρ 0 (upd (ρ 0) 6 (ρ 0 6 + 1))) (upA ν 1 (upd (ν 1) 0 (ν 1 0 + 1))) := by
    refine ⟨Off.upA (by decide), fun i hi => by rw [upA_s, upd_o _ _ hi], Off.upA (by decide), fun i hi hj => ?_⟩
    rw [upA_s, upd_o _ _ hi]
  refine ⟨h.step fr ?_ ?_ ?_ ?_ ?_ ?_, fr⟩
  · rw [upA_s, upd_s, h.mi]; exact nI_1 q
  · rw [upA_s, upd_s, h.mj]; exact nI_1 q
  · intro i hi
    rw [upA_o _ _ (by decide), upA_s, upd_o _ _ (by omega)]; exact h.le i hi
  · intro i hi
    rw [upA_o _ _ (by decide), upA_s, upd_o _ _ (by omega)]; exact h.ou i hi
  · intro i hi
    rw [upA_o _ _ (by decide)]; exact h.lb i hi
  · intro i hi
    rw [upA_o _ _ (by decide)]; exact h.ob i hi
theorem SE.bind {q : Nat} {ρ ν a b : Mem} (f : Fr ρ ν a b) {x y : Mem × Int32} (h : SE q a b x y) : SE q ρ ν x y := ⟨h.1, h.2.1, f.trans h.2.2.1, h.2.2.2⟩
theorem Sim.id2 {q : Nat} {ρ ν : Mem} {x y : Option (Mem × Int32)} (h : Sim (SE q ρ ν) x y) : Sim (SE q ρ ν) (x.bind fun q => some (q.1, q.2)) (y.bind fun q => some (q.1, q.2)) :=
  h.bind fun _ _ k => Sim.pure k
theorem min_L {q : Nat} (hq : q < 2 ^ 30) : ∀ (r x : Nat) (ρ ν : Mem) (f g : Nat), x + r = 9 → r < f → r < g → RR q ρ ν →
    Sim (SE q ρ ν) (f_X4_passMinute_L12 f ρ (nI x)) (f_X12_minute_L12 g ν (nI x)) := by
  intro r
  induction r with
  | zero =>
    intro x ρ ν f g hx hf hg h
    obtain ⟨f, rfl⟩ : ∃ f', f = f' + 1 := ⟨f - 1, by omega⟩
    obtain ⟨g, rfl⟩ : ∃ g', g = g' + 1 := ⟨g - 1, by omega⟩
    unfold f_X4_passMinute_L12 f_X12_minute_L12
    have e : (9 : Int32) ≤ nI x := by rw [show (9 : Int32) = nI 9 from rfl, nI_leI (by omega) (by omega)]; omega
    rw [if_pos e, if_pos e]
    exact (settle_ok hq h).id2
  | succ r ih =>
    intro x ρ ν f g hx hf hg h
    obtain ⟨f, rfl⟩ : ∃ f', f = f' + 1 := ⟨f - 1, by omega⟩
    obtain ⟨g, rfl⟩ : ∃ g', g = g' + 1 := ⟨g - 1, by omega⟩
    have hx9 : x < 9 := by omega
    unfold f_X4_passMinute_L12 f_X12_minute_L12
    have e : ¬ (9 : Int32) ≤ nI x := by rw [show (9 : Int32) = nI 9 from rfl, nI_leI (by omega) (by omega)]; omega
    rw [if_neg e, if_neg e, st4 hx9 (h.ob x hx9), st12 hx9, ← h.ou x hx9]
    simp only [Option.bind_some]
    rw [show (if ρ 5 x = -1 then (1 : Int32) else 0) = stB ρ x from rfl]
    have nx : nI x + (1 : Int32) = nI (x + 1) := nI_1 x
    rw [nx]
    by_cases hs : stB ρ x = 0
    · rw [if_pos hs, if_pos hs]
      exact ih (x + 1) ρ ν f g (by omega) (by omega) (by omega) h
    · rw [if_neg hs, if_neg hs]
      refine (spends_ok h hx9).bind ?_
      rintro ⟨a, y⟩ ⟨b, z⟩ ⟨⟨j, hj, e1, e2⟩, o1, o2⟩
      have e1' : y = nI j := e1
      have e2' : z = nI j := e2
      rw [e1', e2']
      have r1 : RR q a b := h.scr o1 o2
      refine (less_ok r1 hx9 hj).bind ?_
      rintro a2 b2 ⟨r2, f2, -⟩
      exact (ih (x + 1) a2 b2 f g (by omega) (by omega) (by omega) r2).mono fun u v k => SE.bind ((Fr.scr o1 o2).trans f2) k
theorem min_ok {q : Nat} (hq : q < 2 ^ 29) {ρ ν : Mem} (h : RR q ρ ν) : Sim (SE (q + 1) ρ ν) (f_X4_passMinute ρ) (f_X12_minute ν) := by
  have z : (0 : Int32).toNatClampNeg = 0 := by decide
  have i : inb (0 : Int32) 387 = true := by decide
  unfold f_X4_passMinute f_X12_minute
  rw [if_pos i, if_pos i, z]
  simp only [bd]
  obtain ⟨r, f⟩ := h.min
  rw [show (0 : Int32) = nI 0 from rfl]
  exact (min_L (by omega) 9 0 _ _ fuel0 fuel0 (by omega) (fuel_ge 9 (by omega)) (fuel_ge 9 (by omega)) r).mono fun u v k => SE.bind f k
/-- what a pass gives -/
def PA (q : Nat) (ρ ν : Mem) (a b : Mem × Int32) : Prop := a.2 = b.2 ∧ RR q a.1 b.1 ∧ Fr ρ ν a.1 b.1 ∧ (Set0 ρ → Set0 a.1)
theorem pass_L {n : Nat} (hn : n ≤ 1000) : ∀ (r x : Nat) (t : Int32) (q : Nat) (ρ ν : Mem) (f g : Nat), x + r = n → r < f → r < g → q + r < 2 ^ 29 → RR q ρ ν →
    Sim (PA (q + r) ρ ν) (f_X4_pass_L4 f ρ (nI n) t (nI x)) (f_X12_go_L4 g ν (nI n) t (nI x)) := by
  intro r
  induction r with
  | zero =>
    intro x t q ρ ν f g hx hf hg hq h
    obtain ⟨f, rfl⟩ : ∃ f', f = f' + 1 := ⟨f - 1, by omega⟩
    obtain ⟨g, rfl⟩ : ∃ g', g = g' + 1 := ⟨g - 1, by omega⟩
    unfold f_X4_pass_L4 f_X12_go_L4
    have e : nI n ≤ nI x := by rw [nI_leI (by omega) (by omega)]; omega
    rw [if_pos e, if_pos e]
    exact Sim.pure ⟨rfl, h, Fr.refl _ _, id⟩
  | succ r ih =>
    intro x t q ρ ν f g hx hf hg hq h
    obtain ⟨f, rfl⟩ : ∃ f', f = f' + 1 := ⟨f - 1, by omega⟩
    obtain ⟨g, rfl⟩ : ∃ g', g = g' + 1 := ⟨g - 1, by omega⟩
    unfold f_X4_pass_L4 f_X12_go_L4
    have e : ¬ nI n ≤ nI x := by rw [nI_leI (by omega) (by omega)]; omega
    rw [if_neg e, if_neg e]
    refine (min_ok (by omega) h).bind ?_
    rintro ⟨a, y⟩ ⟨b, z⟩ ⟨e1, r1, f1, s1, -⟩
    obtain rfl : y = z := e1
    simp only [bd]
    rw [show nI x + (1 : Int32) = nI (x + 1) from nI_1 x, show q + (r + 1) = (q + 1) + r by omega]
    exact (ih (x + 1) (t + y) (q + 1) a b f g (by omega) (by omega) (by omega) (by omega) r1).mono fun u v ⟨k1, k2, k3, k4⟩ => ⟨k1, k2, f1.trans k3, fun _ => k4 s1⟩
theorem pass_ok {n q : Nat} (hn : n ≤ 1000) (hq : q < 2 ^ 28) {ρ ν : Mem} (h : RR q ρ ν) : Sim (PA (q + n) ρ ν) (f_X4_pass ρ (nI n)) (f_X12_go ν (nI n)) := by
  unfold f_X4_pass f_X12_go
  rw [show (0 : Int32) = nI 0 from rfl]
  exact pass_L hn n 0 (nI 0) q ρ ν fuel0 fuel0 (by omega) (fuel_ge n hn) (fuel_ge n hn) (by omega) h
theorem poke_ok {q : Nat} (hq : q < 2 ^ 30) {ρ ν : Mem} (h : RR q ρ ν) {k : Nat} (hk : k < 9) : Sim (SE q ρ ν) (f_X4_pokeOne ρ (nI k)) (f_X12_pokes ν (nI k)) := by
  unfold f_X4_pokeOne f_X12_pokes
  have t := lays_k ν 3 (0 : Int32) hk (show 3 < 5 by omega)
  rw [if_pos (in_k hk (by omega)), cl_I (show k < 2 ^ 31 by omega), show f_X12_lays1 ν (nI k) (3 : Int32) (0 : Int32) = _ from t]
  simp only [Option.bind_some, bd]
  obtain ⟨r, f⟩ := h.left (l := 0) hk (by omega)
  exact ((settle_ok hq r).mono fun u v k => SE.bind f k).id2
