theorem ixO_get {P : List Nat} {k a j : Nat} (h : ixO P k a = some j) : k ≤ j ∧ P.getD (j - k) 0 = a := by
  induction P generalizing k with
  | nil => exact absurd h (by simp [ixO])
  | cons p P ih =>
    rw [ixO] at h
    by_cases e : a = p
    · rw [if_pos e] at h
      obtain rfl : k = j := by simpa using h
      exact ⟨Nat.le_refl _, by simp [e]⟩
    · rw [if_neg e] at h
      obtain ⟨h1, h2⟩ := ih h
      refine ⟨by omega, ?_⟩
      rw [show j - k = (j - (k + 1)) + 1 by omega]
      simpa using h2
theorem put_self (P : List Nat) (μ : Mem) : put P μ (sub P μ) = μ := by
  funext a
  unfold put
  cases h : ixO P 0 a with
  | none => rfl
  | some j =>
    have := (ixO_get h).2
    show μ (P.getD j 0) = μ a
    rw [Nat.sub_zero] at this
    rw [this]
theorem put_w (μ : Mem) {l : Mem} (h : Off [1] (sub [6, 7, 8, 9] μ) l) : Off [7] μ (put [6, 7, 8, 9] μ l) := by
  intro a ha
  unfold put
  cases e : ixO [6, 7, 8, 9] 0 a with
  | none => rfl
  | some j =>
    have e2 := (ixO_get e).2
    have : j ≠ 1 := by
      intro h1; subst h1; apply ha; rw [← e2]; decide
    show l j = μ a
    rw [h j (by simpa using this)]
    show μ ([6, 7, 8, 9].getD j 0) = μ a
    rw [Nat.sub_zero] at e2
    rw [e2]
theorem put_v (μ : Mem) {l : Mem} (h : Off [1] (sub [10, 11, 12, 13] μ) l) : Off [11] μ (put [10, 11, 12, 13] μ l) := by
  intro a ha
  unfold put
  cases e : ixO [10, 11, 12, 13] 0 a with
  | none => rfl
  | some j =>
    have e2 := (ixO_get e).2
    have : j ≠ 1 := by
      intro h1; subst h1; apply ha; rw [← e2]; decide
    show l j = μ a
    rw [h j (by simpa using this)]
    show μ ([10, 11, 12, 13].getD j 0) = μ a
    rw [Nat.sub_zero] at e2
    rw [e2]
theorem fuel_big : 1000 < fuel0 := by unfold fuel0; omega
theorem gives_ok {u : Nat} (hu : u < 2) {lam ν : Mem} {x1 x2 x3 : Int32} (h : LR u lam ν) (hn : ¬ lam 0 3 = 0)
    (h9 : ν 6 109 = x3) (h2 : ν 6 112 = x2) (h5 : ν 6 (if u = 0 then 115 else 100) = x1) :
    Sim (fun a b => a.2 = b.2 ∧ Off [1] lam a.1 ∧ Off [7] ν b.1) (f_X1_gives lam x1 x2 x3) (f_X12_worked ν (nI u)) := by
  obtain ⟨n, n6, e0, e1, dep, d0, hp⟩ := h
  have hn0 : 0 < n := by
    rcases Nat.eq_zero_or_pos n with h | h
    · exact absurd (by rw [e0, h]; rfl) hn
    · exact h
  have ee : (53 : Int32) + (125 : Int32) * nI u = nI (53 + 125 * u) := by
    rw [show (53 : Int32) = nI 53 from rfl, show (125 : Int32) = nI 125 from rfl, nI_mulI, nI_add]
  unfold f_X1_gives f_X12_worked
  rw [ee]
  simp only [bd]
  have := gw_loop hu n6 (lam 2) (ν 1) (ν 6) hp e1 h9 h2 h5 n 0 lam ν fuel0 fuel0 (by omega) (Nat.lt_of_le_of_lt (by omega) fuel_big) (Nat.lt_of_le_of_lt (by omega) fuel_big) e0 rfl rfl rfl
    (fun i hi => by rw [d0] at hi; omega) (fun h => absurd h (by omega)) (by omega) (Or.inl hn0)
  rw [d0] at this
  rw [show (0 : Int32) = nI 0 from rfl]
  exact this
def stB (ρ : Mem) (k : Nat) : Int32 := if ρ 5 k = -1 then 1 else 0
theorem st4 {ρ : Mem} {k : Nat} (hk : k < 9) (ob : ρ 5 k = -1 ∨ 0 ≤ ρ 5 k) : f_X4_stands ρ (nI k) = some (ρ, stB ρ k) := by
  unfold f_X4_stands stB
  rw [if_pos ((inb_iff (by omega)).mpr hk), cl_I (by omega)]
  rcases ob with h | h
  · rw [h, if_neg (by decide), if_pos rfl]
  · rw [if_pos h, if_neg (fun e => by rw [e] at h; exact absurd h (by decide))]
theorem st12 {ν : Mem} {k : Nat} (hk : k < 9) : f_X12_stands ν (nI k) = some (ν, if ν 1 (8 + 5 * k + 4) = -1 then 1 else 0) := by
  unfold f_X12_stands
  rw [show (4 : Int32) = nI 4 from rfl, its_k ν 4 hk (by omega)]
  simp only [Option.bind_some]
  split <;> rfl
theorem kind_k {ρ : Mem} {k j : Nat} (hk : k < 9) (hj : j < 7) (e : ρ 1 k = nI j) : f_X4_kindOf ρ (nI k) = some (ρ, 15 + j) := by
  unfold f_X4_kindOf
  rw [if_pos ((inb_iff (by omega)).mpr hk), cl_I (by omega), e]
  have : j = 0 ∨ j = 1 ∨ j = 2 ∨ j = 3 ∨ j = 4 ∨ j = 5 ∨ j = 6 := by omega
  rcases this with h | h | h | h | h | h | h <;> subst h <;> rfl
theorem bite_ok {q : Nat} {ρ ν : Mem} (h : RR q ρ ν) {k : Nat} (hk : k < 9) :
    ∃ j, j ≤ 99 ∧ f_X4_bite ρ (nI k) = some (ρ, nI j) ∧ f_X12_bite ν (nI k) = some (ν, nI j) := by
  obtain ⟨j, hj, ej⟩ := h.kb k hk
  obtain ⟨m, hm, em⟩ := h.mb k hk
  have kd := h.kd k hk
  have mm := h.mm k hk
  unfold f_X4_bite f_X12_bite
  have kk := kind_k hk hj ej
  rw [kk, show (0 : Int32) = nI 0 from rfl, its_k ν 0 hk (by omega), ← kd, ej]
  simp only [Option.bind_some]
  have i1 : inb (nI k) 9 = true := (inb_iff (by omega)).mpr hk
  have i2 : (nI k).toNatClampNeg = k := cl_I (by omega)
  rw [i2, i1, em]
  have : j = 0 ∨ j = 1 ∨ j = 2 ∨ j = 3 ∨ j = 4 ∨ j = 5 ∨ j = 6 := by omega
  rcases this with h | h | h | h | h | h | h <;> subst h
  · exact ⟨10, by omega, rfl, rfl⟩
  · exact ⟨0, by omega, rfl, rfl⟩
  · exact ⟨10, by omega, rfl, rfl⟩
  · refine ⟨10 + 3 * m, by omega, ?_, ?_⟩
    · show some (ρ, (10 : Int32) + (3 : Int32) * nI m) = _
      rw [show (10 : Int32) = nI 10 from rfl, show (3 : Int32) = nI 3 from rfl, nI_mulI, nI_add]
    · rw [show (1 : Int32) = nI 1 from rfl, its_k ν 1 hk (by omega), ← mm, em]
      show some (ν, (10 : Int32) + (3 : Int32) * nI m) = _
      rw [show (10 : Int32) = nI 10 from rfl, show (3 : Int32) = nI 3 from rfl, nI_mulI, nI_add]
  · exact ⟨2, by omega, rfl, rfl⟩
  · exact ⟨20, by omega, rfl, rfl⟩
  · exact ⟨10, by omega, rfl, rfl⟩
theorem miss_k (lam : Mem) : f_X1_isMissing lam = some (lam, if lam 0 3 = 0 then 1 else 0) := by
  unfold f_X1_isMissing; split <;> rfl
theorem text_k {u : Nat} (hu : u < 2) {lam ν : Mem} (h : LR u lam ν) : f_X12_hasText ν (nI u) = some (ν, if lam 0 3 = 0 then 0 else 1) := by
  obtain ⟨n, n6, e0, e1, -⟩ := h
  unfold f_X12_hasText
  rw [show (53 : Int32) = nI 53 from rfl, show (125 : Int32) = nI 125 from rfl, nI_mulI, nI_add, if_pos ((inb_iff (by omega)).mpr (by omega)), cl_I (by omega), e1, e0,
    show (0 : Int32) = nI 0 from rfl]
  by_cases hz : n = 0
  · rw [hz, if_pos (by decide), if_pos rfl]
  · rw [if_neg (by rw [nI_leI (by omega) (by omega)]; omega), if_neg (by rw [nI_inj (by omega) (by omega)]; omega)]
