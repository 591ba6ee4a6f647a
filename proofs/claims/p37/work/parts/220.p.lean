/-- back from the row's work to the whole memory -/
theorem NR.back {q : Nat} {μ ν a b : Mem} (hq : q ≤ 9999) (r : RR q a b) (f : Fr (sub PN μ) ν a b) (z : Set0 a) (v : Int32) : OR μ ν (put PN μ a, v) (b, v) := by
  refine ⟨rfl, ?_, FT.row f⟩
  show NR (put PN μ a) b
  unfold NR
  rw [sub_put (by decide) f.a]
  exact ⟨⟨q, hq, r⟩, z⟩
theorem who_L {q : Nat} {ρ ν : Mem} (h : RR q ρ ν) {p : Nat} : ∀ (r x : Nat), x + r = 9 → (∃ k, x ≤ k ∧ k < 9 ∧ ρ 3 k = nI p) →
    ∃ k, k < 9 ∧ ρ 3 k = nI p ∧ (∀ f, r < f → f_X4_whoIsAt_L2 f ρ (nI p) (nI x) = some (ρ, nI k)) ∧ (∀ f, r < f → f_X12_standsAt_L2 f ν (nI p) (nI x) = some (ν, nI k)) := by
  intro r
  induction r with
  | zero => intro x hx ⟨k, h1, h2, _⟩; omega
  | succ r ih =>
    intro x hx hk
    have hx9 : x < 9 := by omega
    have e : ¬ (9 : Int32) ≤ nI x := by rw [show (9 : Int32) = nI 9 from rfl, nI_leI (by omega) (by omega)]; omega
    have nx : nI x + (1 : Int32) = nI (x + 1) := nI_1 x
    have c4 : ∀ f, f_X4_whoIsAt_L2 (f + 1) ρ (nI p) (nI x) = if ρ 3 x = nI p then some (ρ, nI x) else f_X4_whoIsAt_L2 f ρ (nI p) (nI (x + 1)) := by
      intro f
      rw [f_X4_whoIsAt_L2, if_neg e, if_pos (in_k hx9 (by omega)), cl_I (by omega), nx]
    have c12 : ∀ f, f_X12_standsAt_L2 (f + 1) ν (nI p) (nI x) = if ρ 3 x = nI p then some (ν, nI x) else f_X12_standsAt_L2 f ν (nI p) (nI (x + 1)) := by
      intro f
      rw [f_X12_standsAt_L2, show f_X12_its ν (nI x) (2 : Int32) = _ from its_k ν 2 hx9 (by omega)]
      simp only [Option.bind_some]
      rw [nx, ← h.po x hx9]
    by_cases hp : ρ 3 x = nI p
    · refine ⟨x, hx9, hp, fun f hf => ?_, fun f hf => ?_⟩
      · obtain ⟨f, rfl⟩ : ∃ f', f = f' + 1 := ⟨f - 1, by omega⟩
        rw [c4, if_pos hp]
      · obtain ⟨f, rfl⟩ : ∃ f', f = f' + 1 := ⟨f - 1, by omega⟩
        rw [c12, if_pos hp]
    · obtain ⟨k, k1, k2, k3⟩ := hk
      have : k ≠ x := fun e => hp (e ▸ k3)
      obtain ⟨j, j1, j2, a, b⟩ := ih (x + 1) (by omega) ⟨k, by omega, k2, k3⟩
      refine ⟨j, j1, j2, fun f hf => ?_, fun f hf => ?_⟩
      · obtain ⟨f, rfl⟩ : ∃ f', f = f' + 1 := ⟨f - 1, by omega⟩
        rw [c4, if_neg hp]; exact a f (by omega)
      · obtain ⟨f, rfl⟩ : ∃ f', f = f' + 1 := ⟨f - 1, by omega⟩
        rw [c12, if_neg hp]; exact b f (by omega)
theorem who_ok {q : Nat} {ρ ν : Mem} (h : RR q ρ ν) {p : Nat} (hp : p < 9) :
    ∃ k, k < 9 ∧ ρ 3 k = nI p ∧ f_X4_whoIsAt ρ (nI p) = some (ρ, nI k) ∧ f_X12_standsAt ν (nI p) = some (ν, nI k) := by
  obtain ⟨k, hk, ek⟩ := h.pp p hp
  obtain ⟨j, j1, j2, a, b⟩ := who_L h (p := p) 9 0 (by omega) ⟨k, by omega, hk, ek⟩
  exact ⟨j, j1, j2, a fuel0 (fuel_ge 9 (by omega)), b fuel0 (fuel_ge 9 (by omega))⟩
theorem fly_ok {q : Nat} (hq : q < 2 ^ 30) {ρ ν : Mem} (h : RR q ρ ν) (z : Set0 ρ) {p : Nat} (hp : p < 9) : Sim (SE q ρ ν) (f_X4_flyAt ρ (nI p)) (f_X12_flyAt ν (nI p)) := by
  obtain ⟨k, hk, -, e1, e2⟩ := who_ok h hp
  unfold f_X4_flyAt f_X12_flyAt
  rw [e1, e2]
  simp only [Option.bind_some]
  rw [if_neg (nI_pos (show k < 2 ^ 31 by omega)), st4 hk (h.ob k hk), st12 hk, ← h.ou k hk]
  simp only [Option.bind_some]
  rw [show (if ρ 5 k = -1 then (1 : Int32) else 0) = stB ρ k from rfl]
  by_cases hs : stB ρ k = 0
  · rw [if_pos hs, if_pos hs, settle_no h z]
    exact Sim.pure ⟨rfl, h, Fr.refl _ _, z, 0, by omega, rfl⟩
  · rw [if_neg hs, if_neg hs]
    obtain ⟨j, hj, b1, b2⟩ := bite_ok h hk
    rw [b1, b2]
    simp only [Option.bind_some]
    refine (less_ok h hk hj).bind ?_
    rintro a b ⟨r1, f1, -⟩
    exact ((settle_ok hq r1).mono fun u v k => SE.bind f1 k).id2
theorem fly_op {μ ν : Mem} (h : NR μ ν) (x : Int32) : Sim (OR μ ν) (f_X11_fly μ x) (f_X12_fly ν x) := by
  unfold f_X11_fly f_X12_fly
  rcases one_cases x with ⟨-, e1, e3⟩ | ⟨-, e1, e3, k, hk, rfl⟩
  · rw [e1, e3]
    exact errs_ok h (c := 1) (by omega)
  · rw [e1, e3]
    obtain ⟨⟨q, hq, r⟩, z⟩ := id h
    simp only [Option.bind_some]
    rw [if_neg (show ¬ (1 : Int32) = 0 by decide), if_neg (show ¬ (1 : Int32) = 0 by decide)]
    refine (fly_ok (by omega) r z hk).bind ?_
    rintro ⟨a, y⟩ ⟨b, w⟩ ⟨e, r1, f1, z1, -⟩
    obtain rfl : y = w := e
    exact Sim.pure (NR.back hq r1 f1 z1 y)
theorem at_op {μ ν : Mem} (h : NR μ ν) (x : Int32) : Sim (OR μ ν) (f_X11_at μ x) (f_X12_at ν x) := by
  unfold f_X11_at f_X12_at
  rcases one_cases x with ⟨-, e1, e3⟩ | ⟨-, e1, e3, k, hk, rfl⟩
  · rw [e1, e3]
    exact errs_ok h (c := 1) (by omega)
  · rw [e1, e3]
    obtain ⟨⟨q, hq, r⟩, z⟩ := id h
    simp only [Option.bind_some]
    obtain ⟨j, -, -, a, b⟩ := who_ok r hk
    rw [if_neg (show ¬ (1 : Int32) = 0 by decide), if_neg (show ¬ (1 : Int32) = 0 by decide), a, b]
    exact Sim.pure (NR.back hq r (Fr.refl _ _) z (nI j))
theorem minutes_op {μ ν : Mem} (h : NR μ ν) (x : Int32) : Sim (OR μ ν) (f_X11_minutes μ x) (f_X12_minutes ν x) := by
  unfold f_X11_minutes f_X12_minutes
  rw [in_same]
  have c : (f_X11_within x (1 : Int32) (200 : Int32) = some 0) ∨ (f_X11_within x (1 : Int32) (200 : Int32) = some 1 ∧ ∃ k, 1 ≤ k ∧ k ≤ 200 ∧ x = nI k) := by
    unfold f_X11_within
    by_cases h0 : x < 1
    · rw [if_pos h0]; exact Or.inl rfl
    · rw [if_neg h0]
      have h00 : ¬ x < 0 := fun h => h0 (Int32.lt_trans h (by decide))
      obtain ⟨k, hk, rfl⟩ := nI_of h00
      by_cases h1 : (200 : Int32) < nI k
      · rw [if_pos h1]; exact Or.inl rfl
      · rw [if_neg h1]
        rw [show (200 : Int32) = nI 200 from rfl, nI_ltI (by omega) hk] at h1
        rw [show (1 : Int32) = nI 1 from rfl, nI_ltI hk (by omega)] at h0
        exact Or.inr ⟨rfl, k, by omega, by omega, rfl⟩
  have er : ∀ c : Nat, 0 < c → c < 7 → f_X12_minutes_L34 ν x (nI c) = (f_X12_error ν (nI c)).bind fun q4 => some (q4.1, q4.2) := by
    intro c h1 h2
    unfold f_X12_minutes_L34
    rw [show (0 : Int32) = nI 0 from rfl, if_neg (by rw [nI_leI (by omega) (by omega)]; omega)]
  rcases c with e | ⟨e, k, k1, k2, rfl⟩
  · rw [e]
    simp only [Option.bind_some]
    rw [if_pos trivial, if_pos trivial, show f_X12_minutes_L34 ν x (1 : Int32) = _ from er 1 (by omega) (by omega)]
    exact errs_ok h (c := 1) (by omega)
  · rw [e]
    obtain ⟨⟨q, hq, r⟩, z⟩ := id h
    have m1 : μ 23 6 = nI q := r.mi
    simp only [Option.bind_some]
    rw [if_neg (show ¬ (1 : Int32) = 0 by decide), if_neg (show ¬ (1 : Int32) = 0 by decide), if_pos (show inb (0 : Int32) 387 = true by decide), show (0 : Int32).toNatClampNeg = 0 by decide,
      m1, r.mj, nI_add]
    by_cases hle : nI (q + k) ≤ (9999 : Int32)
    · rw [if_pos hle, if_pos hle]
      rw [show (9999 : Int32) = nI 9999 from rfl, nI_leI (by omega) (by omega)] at hle
      unfold f_X12_minutes_L34
      rw [if_pos (show (0 : Int32) ≤ 0 by decide)]
      refine (pass_ok (n := k) (by omega) (by omega) r).bind ?_
      rintro ⟨a, y⟩ ⟨b, w⟩ ⟨e, r1, f1, z1⟩
      obtain rfl : y = w := e
      exact Sim.pure (NR.back hle r1 f1 (z1 z) y)
    · rw [if_neg hle, if_neg hle, show f_X12_minutes_L34 ν (nI k) (3 : Int32) = _ from er 3 (by omega) (by omega)]
      exact errs_ok h (c := 3) (by omega)
