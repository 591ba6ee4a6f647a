/-- body, count, told: what they leave, and when their answers agree -/
theorem Rel.e1 {μ ν : Mem} (h : Rel μ ν) (g1 g2 : Nat → Int32) : Rel (upA μ 84 g1) (upA ν 4 g2) := (h.or (OR.err h.nr g1 g2 0)).2
theorem upA_i (μ : Mem) (c : Nat) : upA μ c (μ c) = μ := by
  funext a
  by_cases h : a = c
  · subst h; exact upA_s _ _ _
  · exact upA_o _ _ h
theorem Rel.el {μ ν : Mem} (h : Rel μ ν) (g1 : Nat → Int32) : Rel (upA μ 84 g1) ν := by
  have := h.e1 g1 (ν 4)
  rw [upA_i] at this
  exact this
theorem Rel.er {μ ν : Mem} (h : Rel μ ν) (g2 : Nat → Int32) : Rel μ (upA ν 4 g2) := by
  have := h.e1 (μ 84) g2
  rw [upA_i] at this
  exact this
theorem fails_k (μ : Mem) {c : Nat} (hc : c < 7) : ∃ g, f_X11_fails μ (nI c) = some (upA μ 84 g, (-1000000000 : Int32) - nI c) := by
  have i1 : inb (nI c) 7 = true := in_k hc (by omega)
  unfold f_X11_fails
  rw [if_pos i1, if_pos i1]
  exact ⟨_, rfl⟩
theorem error_k (ν : Mem) {c : Nat} (hc : c < 7) : ∃ g, f_X12_error ν (nI c) = some (upA ν 4 g, (-1000000000 : Int32) - nI c) := by
  have i1 : inb (nI c) 7 = true := in_k hc (by omega)
  unfold f_X12_error
  rw [if_pos i1, if_pos i1]
  exact ⟨_, rfl⟩
theorem win_n (y : Int32) {n : Nat} (hn : n ≤ 1000) : (f_X11_within y (0 : Int32) (nI n - 1) = some 0) ∨ (f_X11_within y (0 : Int32) (nI n - 1) = some 1 ∧ ∃ j, j < n ∧ y = nI j) := by
  by_cases n0 : n = 0
  · subst n0
    left
    unfold f_X11_within
    by_cases a : y < 0
    · rw [if_pos a]
    · rw [if_neg a, if_pos (Int32.lt_of_lt_of_le (show (nI 0 - 1 : Int32) < 0 by decide) (Int32.not_lt.mp a))]
  · rw [show (nI n - 1 : Int32) = nI (n - 1) from by rw [show (1 : Int32) = nI 1 from rfl, nI_subI (by omega)]]
    rcases in_lh y (l := 0) (n := n - 1) (by omega) (by omega) with e | ⟨e, j, -, hj, rfl⟩
    · exact Or.inl e
    · exact Or.inr ⟨e, j, by omega, rfl⟩
theorem body_C {μ : Mem} {n : Nat} (hn : n ≤ 30) (e : μ 74 3 = nI n) (x : Int32) : ∃ g v, f_X11_body μ x = some (upA μ 84 g, v) ∧ (n = 0 → v = (-1000000000 : Int32) - nI 2) := by
  unfold f_X11_body
  rw [e]
  rcases win_n x (n := n) (by omega) with w | ⟨w, j, hj, rfl⟩
  · rw [w, Option.bind_some, if_pos rfl]
    obtain ⟨g, eg⟩ := fails_k μ (c := 2) (by omega)
    rw [show f_X11_fails μ (2 : Int32) = _ from eg]
    exact ⟨g, _, rfl, fun _ => rfl⟩
  · rw [w, Option.bind_some, if_neg n1, if_pos (in_k (show j < 30 by omega) (by omega))]
    exact ⟨μ 84, _, by rw [upA_i], fun h => by omega⟩
theorem body_R {ν : Mem} {n : Nat} (hn : n ≤ 30) (e : ν 0 14 = nI n) (x : Int32) : ∃ g v, f_X12_body ν x = some (upA ν 4 g, v) ∧ (n = 0 → v = (-1000000000 : Int32) - nI 2) := by
  unfold f_X12_body
  rw [e, in_same]
  rcases win_n x (n := n) (by omega) with w | ⟨w, j, hj, rfl⟩
  · rw [w, Option.bind_some, if_pos rfl]
    obtain ⟨g, eg⟩ := error_k ν (c := 2) (by omega)
    rw [show f_X12_error ν (2 : Int32) = _ from eg]
    exact ⟨g, _, rfl, fun _ => rfl⟩
  · rw [w, Option.bind_some, if_neg n1, if_pos (in_k (show j < 30 by omega) (by omega))]
    exact ⟨ν 4, _, by rw [upA_i], fun h => by omega⟩
theorem body_op {μ ν : Mem} (h : Rel μ ν) (x : Int32) : Sim (fun a b => (μ 74 3 = 0 → ν 0 14 = 0 → a.2 = b.2) ∧ Rel a.1 b.1) (f_X11_body μ x) (f_X12_body ν x) := by
  obtain ⟨⟨n, hn, e⟩, ⟨m, hm, f⟩, -⟩ := h.tr
  obtain ⟨g, v, e1, e2⟩ := body_C hn e x
  obtain ⟨g', v', f1, f2⟩ := body_R hm f x
  rw [e1, f1]
  refine Sim.pure ⟨fun a b => ?_, h.e1 g g'⟩
  rw [e, show (0 : Int32) = nI 0 from rfl, nI_inj (by omega) (by omega)] at a
  rw [f, show (0 : Int32) = nI 0 from rfl, nI_inj (by omega) (by omega)] at b
  exact (e2 a).trans (f2 b).symm
theorem told_op {μ ν : Mem} (h : Rel μ ν) (x : Int32) : Sim (fun a b => ((∀ k, k < 7 → μ 84 k = ν 4 k) → a.2 = b.2) ∧ Rel a.1 b.1) (f_X11_told μ x) (f_X12_told ν x) := by
  unfold f_X11_told f_X12_told
  rw [in_same]
  rcases in_lh x (l := 1) (n := 6) (by omega) (by omega) with e | ⟨e, k, k1, k2, rfl⟩
  · rw [show f_X11_within x (1 : Int32) (6 : Int32) = _ from e, Option.bind_some, Option.bind_some, if_pos rfl, if_pos rfl]
    exact (h.err (c := 1) (by omega)).mono fun a b k => ⟨fun _ => k.1, k.2⟩
  · rw [show f_X11_within (nI k) (1 : Int32) (6 : Int32) = _ from e, Option.bind_some, Option.bind_some, if_neg n1, if_neg n1, if_pos (in_k (show k < 7 by omega) (by omega)), if_pos (in_k (show k < 7 by omega) (by omega)), cl_I (by omega)]
    exact Sim.pure ⟨fun q => q k (by omega), h⟩
/-- the patience of those that stand, added up -/
def psum (ρ : Mem) : Nat → Int32
  | 0 => 0
  | x + 1 => if stB ρ x = 0 then psum ρ x else psum ρ x + ρ 4 x
def cnt12 (ν : Mem) (x1 x2 : Int32) : Option (Mem × Int32) :=
  (if x1 = (0 : Int32) then (if inb (0 : Int32) 387 = true then some (ν, (ν 1 (0 : Int32).toNatClampNeg)) else none) else (if x1 = (1 : Int32) then (if inb (1 : Int32) 387 = true then some (ν, (ν 1 (1 : Int32).toNatClampNeg)) else none) else (if x1 = (2 : Int32) then (f_X12_howMany ν).bind fun q3 => (some (q3.1, q3.2)) else (if x1 = (3 : Int32) then some (ν, x2) else (if x1 = (4 : Int32) then (if inb (2 : Int32) 387 = true then some (ν, (ν 1 (2 : Int32).toNatClampNeg)) else none) else (if x1 = (5 : Int32) then (if inb (3 : Int32) 387 = true then some (ν, (ν 1 (3 : Int32).toNatClampNeg)) else none) else (if x1 = (6 : Int32) then some (ν, (ν 0 14)) else (if x1 = (7 : Int32) then (if inb (4 : Int32) 387 = true then some (ν, (ν 1 (4 : Int32).toNatClampNeg)) else none) else (f_X12_error ν (1 : Int32)).bind fun q7 => (some (q7.1, q7.2))))))))))
theorem cnt_L {q : Nat} {ρ ν : Mem} (h : RR q ρ ν) (x1 : Int32) : ∀ (r x f : Nat), x + r = 9 → r < f →
    f_X4_allPatience_L4 f ρ (psum ρ x) (nI x) = some (ρ, psum ρ 9) ∧ f_X12_count_L4 f ν x1 (psum ρ x) (nI x) = cnt12 ν x1 (psum ρ 9) := by
  intro r
  induction r with
  | zero =>
    intro x f hx hf
    obtain ⟨f, rfl⟩ : ∃ f', f = f' + 1 := ⟨f - 1, by omega⟩
    obtain rfl : x = 9 := by omega
    have e : (9 : Int32) ≤ nI 9 := by decide
    rw [f_X4_allPatience_L4, f_X12_count_L4, if_pos e, if_pos e]
    exact ⟨rfl, rfl⟩
  | succ r ih =>
    intro x f hx hf
    obtain ⟨f, rfl⟩ : ∃ f', f = f' + 1 := ⟨f - 1, by omega⟩
    have hx9 : x < 9 := by omega
    have e : ¬ (9 : Int32) ≤ nI x := by rw [show (9 : Int32) = nI 9 from rfl, nI_leI (by omega) (by omega)]; omega
    have i := ih (x + 1) f (by omega) (by omega)
    have s : (if ρ 5 x = -1 then (1 : Int32) else 0) = stB ρ x := rfl
    rw [f_X4_allPatience_L4, f_X12_count_L4, if_neg e, if_neg e, st4 hx9 (h.ob x hx9), st12 hx9, ← h.ou x hx9, s, Option.bind_some, Option.bind_some, show nI x + (1 : Int32) = nI (x + 1) from nI_1 x]
    have p : psum ρ (x + 1) = if stB ρ x = 0 then psum ρ x else psum ρ x + ρ 4 x := rfl
    by_cases hs : stB ρ x = 0
    · rw [if_pos hs] at p
      rw [if_pos hs, if_pos hs]
      simp only [bd]
      rw [Int32.add_zero, ← p]
      exact i
    · rw [if_neg hs] at p
      rw [if_neg hs, if_neg hs, show f_X12_its ν (nI x) (3 : Int32) = _ from its_k ν 3 hx9 (by omega), Option.bind_some, ← h.le x hx9, if_pos (in_k hx9 (by omega)), cl_I (show x < 2 ^ 31 by omega)]
      simp only [bd]
      rw [← p]
      exact i
theorem count_op {μ ν : Mem} (h : Rel μ ν) (x : Int32) : Sim (fun a b => (μ 74 3 = ν 0 14 → a.2 = b.2) ∧ Rel a.1 b.1) (f_X11_count μ x) (f_X12_count ν x) := by
  obtain ⟨⟨q, hq, r⟩, z⟩ := id h.nr
  obtain ⟨⟨a, a1, a2, a3⟩, ⟨b, b1, b2, b3⟩, c, -, -⟩ := h.ex
  obtain ⟨p1, p2⟩ := cnt_L r x 9 0 fuel0 (by omega) (fuel_ge 9 (by omega))
  have P1 : f_X4_allPatience (sub PN μ) = some (sub PN μ, psum (sub PN μ) 9) := p1
  have P2 : f_X12_count ν x = cnt12 ν x (psum (sub PN μ) 9) := p2
  rw [P2]
  unfold f_X11_count cnt12
  have m0 : μ 23 6 = ν 1 0 := r.mi.trans r.mj.symm
  have m1 : μ 23 5 = ν 1 1 := r.sun
  by_cases x0 : x = 0
  · rw [if_pos x0, if_pos x0, if_pos i0, c0]
    exact Sim.pure ⟨fun _ => m0, h⟩
  rw [if_neg x0, if_neg x0]
  by_cases x1 : x = 1
  · rw [if_pos x1, if_pos x1, if_pos (show inb (1 : Int32) 387 = true by decide), show (1 : Int32).toNatClampNeg = 1 by decide]
    exact Sim.pure ⟨fun _ => m1, h⟩
  rw [if_neg x1, if_neg x1]
  by_cases x2 : x = 2
  · rw [if_pos x2, if_pos x2, many4_ok r, many_ok r, Option.bind_some, Option.bind_some, bd_eq, put_self]
    exact Sim.pure ⟨fun _ => rfl, h⟩
  rw [if_neg x2, if_neg x2]
  by_cases x3 : x = 3
  · rw [if_pos x3, if_pos x3, P1, Option.bind_some, bd_eq, put_self]
    exact Sim.pure ⟨fun _ => rfl, h⟩
  rw [if_neg x3, if_neg x3]
  by_cases x4 : x = 4
  · rw [if_pos x4, if_pos x4, if_pos i2, c2]
    exact Sim.pure ⟨fun _ => a2.trans a3.symm, h⟩
  rw [if_neg x4, if_neg x4]
  by_cases x5 : x = 5
  · rw [if_pos x5, if_pos x5, if_pos i3, c3]
    exact Sim.pure ⟨fun _ => b2.trans b3.symm, h⟩
  rw [if_neg x5, if_neg x5]
  by_cases x6 : x = 6
  · rw [if_pos x6, if_pos x6]
    exact Sim.pure ⟨fun t => t, h⟩
  rw [if_neg x6, if_neg x6]
  by_cases x7 : x = 7
  · rw [if_pos x7, if_pos x7, if_pos i4, c4]
    exact Sim.pure ⟨fun _ => c, h⟩
  rw [if_neg x7, if_neg x7]
  exact (h.err (c := 1) (by omega)).mono fun a b k => ⟨fun _ => k.1, k.2⟩
