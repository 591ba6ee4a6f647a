theorem posts4 {ρ : Mem} {k1 k2 : Nat} (h1 : k1 < 9) (h2 : k2 < 9) : f_X4_changePosts ρ (nI k1) (nI k2) = some (upA ρ 3 (upd (upd (ρ 3) k1 (ρ 3 k2)) k2 (ρ 3 k1))) := by
  have i1 := in_k h1 (show 9 ≤ 100000 by omega)
  have i2 := in_k h2 (show 9 ≤ 100000 by omega)
  have c1 := cl_I (show k1 < 2 ^ 31 by omega)
  have c2 := cl_I (show k2 < 2 ^ 31 by omega)
  unfold f_X4_changePosts
  simp only [bd]
  rw [if_pos i1, if_pos i2, if_pos i1, if_pos i2, c1, c2, upA_s, upA_2]
def swN (ν : Mem) (k1 k2 : Nat) : Mem := upA ν 1 (upd (upd (ν 1) (8 + 5 * k1 + 2) (ν 1 (8 + 5 * k2 + 2))) (8 + 5 * k2 + 2) (ν 1 (8 + 5 * k1 + 2)))
theorem swaps12 {ν : Mem} {k1 k2 : Nat} (h1 : k1 < 9) (h2 : k2 < 9) : f_X12_swaps ν (nI k1) (nI k2) = some (swN ν k1 k2) := by
  unfold f_X12_swaps
  rw [show f_X12_its ν (nI k1) (2 : Int32) = _ from its_k ν 2 h1 (by omega)]
  simp only [Option.bind_some]
  rw [show f_X12_its ν (nI k2) (2 : Int32) = _ from its_k ν 2 h2 (by omega)]
  simp only [Option.bind_some]
  rw [show ∀ v, f_X12_lays1 ν (nI k1) (2 : Int32) v = _ from fun v => lays_k ν 2 v h1 (by omega)]
  simp only [Option.bind_some]
  rw [show ∀ ν' v, f_X12_lays1 ν' (nI k2) (2 : Int32) v = _ from fun ν' v => lays_k ν' 2 v h2 (by omega)]
  simp only [Option.bind_some]
  rw [upA_s, upA_2]
  rfl
theorem swN_1 (ν : Mem) (k1 k2 : Nat) : swN ν k1 k2 1 = upd (upd (ν 1) (8 + 5 * k1 + 2) (ν 1 (8 + 5 * k2 + 2))) (8 + 5 * k2 + 2) (ν 1 (8 + 5 * k1 + 2)) := upA_s _ _ _
theorem swN_o (ν : Mem) (k1 k2 : Nat) {a : Nat} (h : a ≠ 1) : swN ν k1 k2 a = ν a := upA_o _ _ h
theorem swN_twice {ν b : Mem} {k1 k2 : Nat} (h : b 1 = swN ν k1 k2 1) : swN b k1 k2 1 = ν 1 := by
  rw [swN_1, h, swN_1]
  funext i
  by_cases e : k1 = k2
  · subst e
    by_cases hi : i = 8 + 5 * k1 + 2
    · subst hi; simp only [upd_s]
    · rw [upd_o _ _ hi, upd_o _ _ hi, upd_o _ _ hi, upd_o _ _ hi]
  · by_cases hi : i = 8 + 5 * k2 + 2
    · subst hi
      rw [upd_s, upd_o _ _ (show 8 + 5 * k1 + 2 ≠ 8 + 5 * k2 + 2 by omega), upd_s]
    · rw [upd_o _ _ hi]
      by_cases hi' : i = 8 + 5 * k1 + 2
      · subst hi'; rw [upd_s, upd_s]
      · rw [upd_o _ _ hi', upd_o _ _ hi, upd_o _ _ hi']
/-- one turn of change: the ahead row with two posts changed, and how long the first lasts -/
theorem turn_ok {q : Nat} {μ ν : Mem} (hq : q ≤ 9999) (r : RR q (sub PN μ) ν) (z : Set0 (sub PN μ)) {k1 k2 : Nat} (h1 : k1 < 9) (h2 : k2 < 9) (hst : sub PN μ 5 k1 = -1) :
    ∃ μ9 A b t, f_X4_changePosts (sub PH (CA μ)) (nI k1) (nI k2) = some (sub PH μ9) ∧ put PH (CA μ) (sub PH μ9) = μ9 ∧ f_X4_lastsFor (sub PH μ9) (nI k1) = some (A, nI t) ∧ 1 ≤ t ∧ t ≤ 201 ∧
      f_X12_lastAll (swN ν k1 k2) = some b ∧ b 1 = swN ν k1 k2 1 ∧ b 8 k1 = nI t ∧ FA μ ν (put PH μ9 A) (swN b k1 k2) := by
  have rc := (r.copy CL_A).swp h1 h2
  have e4 := posts4 (ρ := sub PH (CA μ)) h1 h2
  have o3 : Off [3] (sub PH (CA μ)) (upA (sub PH (CA μ)) 3 (upd (upd (sub PH (CA μ) 3) k1 (sub PH (CA μ) 3 k2)) k2 (sub PH (CA μ) 3 k1))) := Off.upA (by decide)
  have es : sub PH (put PH (CA μ) (upA (sub PH (CA μ)) 3 (upd (upd (sub PH (CA μ) 3) k1 (sub PH (CA μ) 3 k2)) k2 (sub PH (CA μ) 3 k1)))) = upA (sub PH (CA μ)) 3 (upd (upd (sub PH (CA μ) 3) k1 (sub PH (CA μ) 3 k2)) k2 (sub PH (CA μ) 3 k1)) :=
    sub_putG PH_ap (by decide) o3
  have o3' : Off LA (CA μ) (put PH (CA μ) (upA (sub PH (CA μ)) 3 (upd (upd (sub PH (CA μ) 3) k1 (sub PH (CA μ) 3 k2)) k2 (sub PH (CA μ) 3 k1)))) := put_offG (by decide) o3
  have ah := AH.mk r z
  have hc : sub PH (CA μ) 5 k1 = -1 := by
    rw [← hst]
    exact copy_c CL_A μ (by omega) (by omega) h1
  obtain ⟨α', b', a1, a2, a3, a4, a5, -, a8⟩ := lastAll_ok hq rc
  obtain ⟨A, A1, A2⟩ := a8 k1 h1 (by rw [upA_o _ _ (by decide)]; exact hc)
  obtain ⟨t, t1, t2, t3⟩ := a3.t h1 (by rw [upA_o _ _ (by decide)]; exact hc)
  have a5' : f_X12_lastAll (swN ν k1 k2) = some (LB b') := a5
  have a2' : Held (swN ν k1 k2) b' := a2
  refine ⟨put PH (CA μ) (upA (sub PH (CA μ)) 3 (upd (upd (sub PH (CA μ) 3) k1 (sub PH (CA μ) 3 k2)) k2 (sub PH (CA μ) 3 k1))), A, LB b', t, ?_, ?_, ?_, t1, t2, a5', a2'.back.1, ?_, ?_, ?_⟩
  · rw [e4, es]
  · rw [es]
  · rw [es, ← t3]; exact A1
  · rw [LB_o _ (by decide)]; exact t3
  · refine (ah.2.1.trans o3').trans (put_A ?_)
    rw [es]; exact A2
  · intro a ha
    by_cases h : a = 1
    · subst h; exact swN_twice a2'.back.1
    · rw [swN_o _ _ _ h, a2'.back.2 a ha, swN_o _ _ _ h]
theorem change_L {k1 : Nat} (h1 : k1 < 9) (x2 : Int32) : ∀ (r' x : Nat) (μ ν : Mem) (cb cl rb : Int32) (f f' : Nat), x + r' = 9 → r' < f → r' < f' → Rel μ ν → sub PN μ 5 k1 = -1 →
      ((x ≤ k1 ∧ cb = nI k1 ∧ cl = 0 ∧ rb = -1) ∨ ∃ j t, j < 9 ∧ t ≤ 201 ∧ cb = nI j ∧ rb = nI j ∧ cl = nI t) →
      Sim RA (f_X11_change_L50 f μ (nI k1) x2 cb cl (nI x)) (f_X12_change_L44 f' ν (nI k1) x2 rb cl (nI x)) := by
  intro r'
  induction r' with
  | zero =>
    intro x μ ν cb cl rb f f' hx hf hf' R hst hi
    obtain ⟨f, rfl⟩ : ∃ f1, f = f1 + 1 := ⟨f - 1, by omega⟩
    obtain ⟨f', rfl⟩ : ∃ f1, f' = f1 + 1 := ⟨f' - 1, by omega⟩
    have e : (9 : Int32) ≤ nI x := by rw [show (9 : Int32) = nI 9 from rfl, nI_leI (by omega) (by omega)]; omega
    rw [f_X11_change_L50, f_X12_change_L44, if_pos e, if_pos e]
    rcases hi with ⟨hx1, -⟩ | ⟨j, t, hj, ht, rfl, rfl, rfl⟩
    · omega
    · by_cases h2 : x2 = 0
      · rw [if_pos h2, if_pos h2]; exact Sim.pure ⟨rfl, R⟩
      · rw [if_neg h2, if_neg h2]; exact Sim.pure ⟨rfl, R⟩
  | succ r' ih =>
    intro x μ ν cb cl rb f f' hx hf hf' R hst hi
    obtain ⟨f, rfl⟩ : ∃ f1, f = f1 + 1 := ⟨f - 1, by omega⟩
    obtain ⟨f', rfl⟩ : ∃ f1, f' = f1 + 1 := ⟨f' - 1, by omega⟩
    have hx9 : x < 9 := by omega
    obtain ⟨⟨q, hq, r⟩, z⟩ := id R.nr
    have e : ¬ (9 : Int32) ≤ nI x := by rw [show (9 : Int32) = nI 9 from rfl, nI_leI (by omega) (by omega)]; omega
    rw [f_X11_change_L50, f_X12_change_L44, if_neg e, if_neg e, st4 hx9 (r.ob x hx9), st12 hx9, ← r.ou x hx9]
    simp only [Option.bind_some, bd, put_self]
    rw [show (if sub PN μ 5 x = -1 then (1 : Int32) else 0) = stB (sub PN μ) x from rfl, show nI x + (1 : Int32) = nI (x + 1) from nI_1 x]
    by_cases hs : stB (sub PN μ) x = 0
    · rw [if_pos hs, if_pos hs]
      refine ih (x + 1) μ ν cb cl rb f f' (by omega) (by omega) (by omega) R hst ?_
      rcases hi with ⟨hx1, h⟩ | h
      · refine Or.inl ⟨?_, h⟩
        have : x ≠ k1 := fun e => (stB_0 _ x).mp hs (by rw [e]; exact hst)
        omega
      · exact Or.inr h
    · rw [if_neg hs, if_neg hs]
      obtain ⟨μ9, A, b, t, c1, c2, c3, t1, t2, c4, c5, c6, c7⟩ := turn_ok hq r z h1 hx9 hst
      rw [copy4, swaps12 h1 hx9]
      simp only [Option.bind_some]
      rw [show f_X4_changePosts (sub PH (put QA μ (C4 (sub QA μ)))) (nI k1) (nI x) = _ from c1, c4]
      simp only [Option.bind_some]
      rw [show put PH (put QA μ (C4 (sub QA μ))) (sub PH μ9) = _ from c2, swaps12 h1 hx9, c3]
      simp only [Option.bind_some]
      have R' := R.fa c7
      have hst' : sub PN (put PH μ9 A) 5 k1 = -1 := by
        rw [← hst]
        show put PH μ9 A 28 k1 = μ 28 k1
        rw [c7.1 28 (by decide)]
      have i1 := in_k h1 (show 9 ≤ 100000 by omega)
      have L94 : f_X12_change_L94 (f_X12_change_L44 f') (swN b k1 x) (nI k1) x2 (nI x) = f_X12_change_L44 f' (swN b k1 x) (nI k1) x2 (nI x) (nI t) (nI (x + 1)) := by
        unfold f_X12_change_L94
        rw [if_pos i1, cl_I (by omega), swN_o _ _ _ (by decide), c6, nI_1]
        rfl
      rw [L94, if_pos i1, cl_I (by omega), swN_o _ _ _ (by decide), c6]
      rcases hi with ⟨hx1, rfl, rfl, rfl⟩ | ⟨j, t', hj, ht, rfl, rfl, rfl⟩
      · rw [if_neg (by rw [show (0 : Int32) = nI 0 from rfl, nI_leI (by omega) (by omega)]; omega), if_pos rfl]
        exact ih (x + 1) _ _ _ _ _ f f' (by omega) (by omega) (by omega) R' hst' (Or.inr ⟨x, t, hx9, t2, rfl, rfl, rfl⟩)
      · rw [if_neg (nI_ne (by omega))]
        by_cases hle : nI t ≤ nI t'
        · rw [if_pos hle, if_pos hle]
          exact ih (x + 1) _ _ _ _ _ f f' (by omega) (by omega) (by omega) R' hst' (Or.inr ⟨j, t', hj, ht, rfl, rfl, rfl⟩)
        · rw [if_neg hle, if_neg hle]
          exact ih (x + 1) _ _ _ _ _ f f' (by omega) (by omega) (by omega) R' hst' (Or.inr ⟨x, t, hx9, t2, rfl, rfl, rfl⟩)
theorem change_op {μ ν : Mem} (h : Rel μ ν) (x y : Int32) : Sim RA (f_X11_change μ x y) (f_X12_change ν x y) := by
  unfold f_X11_change f_X12_change
  rw [in_same]
  rcases one_cases x with ⟨e1, -, e3⟩ | ⟨e1, -, e3, k, hk, rfl⟩
  · rw [e1, e3]; exact h.err (c := 1) (by omega)
  · rw [e1, e3]
    obtain ⟨⟨q, hq, r⟩, z⟩ := id h.nr
    simp only [Option.bind_some]
    rw [if_neg n1, if_neg n1]
    rcases in_lh y (l := 0) (n := 1) (by omega) (by omega) with e | ⟨e, n, -, hn, rfl⟩
    · rw [show f_X11_within y (0 : Int32) (1 : Int32) = _ from e]
      exact h.err (c := 1) (by omega)
    · rw [show f_X11_within (nI n) (0 : Int32) (1 : Int32) = _ from e]
      simp only [Option.bind_some]
      rw [if_neg n1, if_neg n1, st4 hk (r.ob k hk), st12 hk, ← r.ou k hk]
      simp only [Option.bind_some, bd, put_self]
      rw [show (if sub PN μ 5 k = -1 then (1 : Int32) else 0) = stB (sub PN μ) k from rfl]
      by_cases hs : stB (sub PN μ) k = 0
      · rw [if_pos hs, if_pos hs]
        exact h.err (c := 3) (by omega)
      · rw [if_neg hs, if_neg hs]
        have hst : sub PN μ 5 k = -1 := Decidable.of_not_not (fun q => hs ((stB_0 _ k).mpr q))
        have := change_L hk (nI n) 9 0 μ ν (nI k) 0 (-1) fuel0 fuel0 (by omega) (fuel_ge 9 (by omega)) (fuel_ge 9 (by omega)) h hst (Or.inl ⟨by omega, rfl, rfl, rfl⟩)
        exact this
