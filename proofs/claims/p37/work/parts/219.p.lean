/-- the places of the row that is now, in the class's world -/
abbrev PN : List Nat := [23, 24, 25, 26, 27, 28, 7, 8, 9, 10, 11, 12, 13, 14, 66, 67, 68, 69, 70, 71, 72, 73]
theorem PN_ix : ∀ j, j < 22 → ixO PN 0 (PN.getD j 0) = some j := by decide
theorem PN_big {j : Nat} (h : 22 ≤ j) : PN.getD j 0 = 0 := by
  rw [List.getD_eq_getElem?_getD, List.getElem?_eq_none (by exact h)]; rfl
theorem sub_put {L : List Nat} (hL : ∀ a, a ∈ L → a < 22) {μ a : Mem} (h : Off L (sub PN μ) a) : sub PN (put PN μ a) = a := by
  funext j
  show put PN μ a (PN.getD j 0) = a j
  by_cases hj : j < 22
  · unfold put
    rw [PN_ix j hj]
  · rw [PN_big (by omega), h j (fun e => absurd (hL j e) hj)]
    show put PN μ a 0 = μ (PN.getD j 0)
    rw [PN_big (by omega)]
    rfl
theorem put_dec : ∀ j, j ∈ [0, 4, 5, 7, 11] → PN.getD j 0 ∈ [23, 27, 28, 8, 12] := by decide
theorem put_off {μ a : Mem} (h : Off [0, 4, 5, 7, 11] (sub PN μ) a) : Off [23, 27, 28, 8, 12] μ (put PN μ a) := by
  intro c hc
  unfold put
  cases e : ixO PN 0 c with
  | none => rfl
  | some j =>
    have e2 := (ixO_get e).2
    rw [Nat.sub_zero] at e2
    have : j ∉ [0, 4, 5, 7, 11] := by
      intro hj
      apply hc
      rw [← e2]
      exact put_dec j hj
    show a j = μ c
    rw [h j this]
    show μ (PN.getD j 0) = μ c
    rw [e2]
/-- the rows that are now agree, and nobody stands at zero -/
def NR (μ ν : Mem) : Prop := (∃ q, q ≤ 9999 ∧ RR q (sub PN μ) ν) ∧ Set0 (sub PN μ)
/-- what a call on the row that is now may change -/
abbrev FT (μ ν μ' ν' : Mem) : Prop :=
  (Off [8, 12, 23, 24, 25, 26, 27, 28, 84] μ μ') ∧
  (Off [1, 4, 6, 7] ν ν') ∧
  (∀ i, 2 ≤ i → i < 8 → ν' 1 i = ν 1 i) ∧
  (∀ i, 53 ≤ i → ν' 1 i = ν 1 i)
theorem FT.a {μ ν μ' ν' : Mem} (h : FT μ ν μ' ν') : Off [8, 12, 23, 24, 25, 26, 27, 28, 84] μ μ' := h.1
theorem FT.b {μ ν μ' ν' : Mem} (h : FT μ ν μ' ν') : Off [1, 4, 6, 7] ν ν' := h.2.1
theorem FT.c {μ ν μ' ν' : Mem} (h : FT μ ν μ' ν') : ∀ i, 2 ≤ i → i < 8 → ν' 1 i = ν 1 i := h.2.2.1
theorem FT.d {μ ν μ' ν' : Mem} (h : FT μ ν μ' ν') : ∀ i, 53 ≤ i → ν' 1 i = ν 1 i := h.2.2.2
theorem FT.refl (μ ν : Mem) : FT μ ν μ ν := ⟨Off.refl _ _, Off.refl _ _, fun _ _ _ => rfl, fun _ _ => rfl⟩
theorem FT.trans {μ ν a b c d : Mem} (h : FT μ ν a b) (k : FT a b c d) : FT μ ν c d :=
  ⟨h.a.trans k.a, h.b.trans k.b, fun i hi hj => (k.c i hi hj).trans (h.c i hi hj), fun i hi => (k.d i hi).trans (h.d i hi)⟩
theorem FT.row {μ ν a b : Mem} (f : Fr (sub PN μ) ν a b) : FT μ ν (put PN μ a) b :=
  ⟨(put_off f.a).mono (by decide), f.c.mono (by decide), fun i h1 h2 => f.d i (by omega) (by omega), fun i hi => f.d i (by omega) (by omega)⟩
/-- a call on the row that is now: equal answers -/
def OR (μ ν : Mem) (a b : Mem × Int32) : Prop := a.2 = b.2 ∧ NR a.1 b.1 ∧ FT μ ν a.1 b.1
theorem NR.off {μ ν μ' ν' : Mem} (h : NR μ ν) (a : sub PN μ' = sub PN μ) (b : ν' 1 = ν 1) : NR μ' ν' := by
  obtain ⟨⟨q, hq, r⟩, z⟩ := h
  unfold NR
  rw [a]
  refine ⟨⟨q, hq, r.step ⟨Off.refl _ _, fun _ _ => rfl, Off.refl _ ν, fun _ _ _ => rfl⟩ r.mi r.mj r.le r.ou r.lb r.ob |> fun r' => ?_⟩, z⟩
  exact ⟨b ▸ r'.kd, b ▸ r'.mm, b ▸ r'.po, b ▸ r'.le, b ▸ r'.ou, b ▸ r'.sun, r'.mi, b ▸ r'.mj, r'.kb, r'.mb, r'.pb, r'.pp, r'.lb, r'.ob, r'.sb,
    r'.w0.frame rfl rfl (fun i _ => by rw [b]), r'.w1.frame rfl rfl (fun i _ => by rw [b])⟩
theorem sub84_dec : ∀ j, j < 22 → PN.getD j 0 ≠ 84 := by decide
theorem sub_84 (μ : Mem) (g : Nat → Int32) : sub PN (upA μ 84 g) = sub PN μ := by
  funext j
  show upA μ 84 g (PN.getD j 0) = μ (PN.getD j 0)
  refine upA_o _ _ ?_
  by_cases hj : j < 22
  · exact sub84_dec j hj
  · rw [PN_big (by omega)]; decide
theorem up41 (ν : Mem) (g : Nat → Int32) : upA ν 4 g 1 = ν 1 := upA_o _ _ (by decide)
theorem OR.err {μ ν : Mem} (h : NR μ ν) (g1 g2 : Nat → Int32) (v : Int32) : OR μ ν (upA μ 84 g1, v) (upA ν 4 g2, v) := by
  refine ⟨rfl, h.off (sub_84 μ g1) (up41 ν g2), ?_, ?_, ?_, ?_⟩
  · exact Off.upA (by decide)
  · exact Off.upA (by decide)
  · exact fun i _ _ => congrFun (up41 ν g2) i
  · exact fun i _ => congrFun (up41 ν g2) i
/-- an error -/
theorem err_ok {μ ν : Mem} (h : NR μ ν) {c : Nat} (hc : c < 7) : Sim (OR μ ν) (f_X11_fails μ (nI c)) (f_X12_error ν (nI c)) := by
  have i1 : inb (nI c) 7 = true := in_k hc (by omega)
  unfold f_X11_fails f_X12_error
  rw [if_pos i1, if_pos i1, if_pos i1, if_pos i1]
  simp only [bd]
  exact Sim.pure (OR.err h _ _ _)
theorem errs_ok {μ ν : Mem} (h : NR μ ν) {c : Nat} (hc : c < 7) : Sim (OR μ ν) ((f_X11_fails μ (nI c)).bind fun q => some (q.1, q.2)) ((f_X12_error ν (nI c)).bind fun q => some (q.1, q.2)) :=
  (err_ok h hc).bind fun _ _ k => Sim.pure k
theorem in_same (x a b : Int32) : f_X12_in x a b = f_X11_within x a b := rfl
/-- a place between 0 and n - 1, or not -/
theorem in_cases (x : Int32) {n : Nat} (hn : n < 2 ^ 31) : (f_X11_within x (0 : Int32) (nI n) = some 0) ∨ (f_X11_within x (0 : Int32) (nI n) = some 1 ∧ ∃ k, k ≤ n ∧ x = nI k) := by
  unfold f_X11_within
  by_cases h0 : x < 0
  · rw [if_pos h0]; exact Or.inl rfl
  · rw [if_neg h0]
    obtain ⟨k, hk, rfl⟩ := nI_of h0
    by_cases h1 : nI n < nI k
    · rw [if_pos h1]; exact Or.inl rfl
    · rw [if_neg h1]
      rw [nI_ltI hn hk] at h1
      exact Or.inr ⟨rfl, k, by omega, rfl⟩
theorem one_cases (x : Int32) : (f_X11_isStander x = some 0 ∧ f_X11_isPost x = some 0 ∧ f_X12_isOne x = some 0) ∨
    (f_X11_isStander x = some 1 ∧ f_X11_isPost x = some 1 ∧ f_X12_isOne x = some 1 ∧ ∃ k, k < 9 ∧ x = nI k) := by
  unfold f_X11_isStander f_X11_isPost f_X12_isOne
  rw [in_same]
  rcases in_cases x (n := 8) (by omega) with h | ⟨h, k, hk, e⟩
  · rw [show (8 : Int32) = nI 8 from rfl, h]
    exact Or.inl ⟨rfl, rfl, rfl⟩
  · rw [show (8 : Int32) = nI 8 from rfl, h]
    exact Or.inr ⟨rfl, rfl, rfl, k, by omega, e⟩
theorem poke_op {μ ν : Mem} (h : NR μ ν) (x : Int32) : Sim (OR μ ν) (f_X11_poke μ x) (f_X12_poke ν x) := by
  unfold f_X11_poke f_X12_poke
  rcases one_cases x with ⟨e1, -, e3⟩ | ⟨e1, -, e3, k, hk, rfl⟩
  · rw [e1, e3]
    exact errs_ok h (c := 1) (by omega)
  · rw [e1, e3]
    obtain ⟨⟨q, hq, r⟩, z⟩ := id h
    simp only [Option.bind_some]
    rw [if_neg (show ¬ (1 : Int32) = 0 by decide), if_neg (show ¬ (1 : Int32) = 0 by decide), st4 hk (r.ob k hk), st12 hk, ← r.ou k hk]
    simp only [Option.bind_some, bd, put_self]
    rw [show (if sub PN μ 5 k = -1 then (1 : Int32) else 0) = stB (sub PN μ) k from rfl]
    by_cases hs : stB (sub PN μ) k = 0
    · rw [if_pos hs, if_pos hs]
      exact errs_ok h (c := 3) (by omega)
    · rw [if_neg hs, if_neg hs]
      refine (poke_ok (by omega) r hk).bind ?_
      rintro ⟨a, y⟩ ⟨b, w⟩ ⟨e, r1, f1, z1, -⟩
      obtain rfl : y = w := e
      refine Sim.pure ⟨rfl, ?_, FT.row f1⟩
      show NR (put PN μ a) b
      unfold NR
      rw [sub_put (by decide) f1.a]
      exact ⟨⟨q, hq, r1⟩, z1⟩
