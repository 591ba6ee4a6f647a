theorem fl_0 (g : Nat) (μ : Mem) (x2 : Int32) (hx : inb x2 24 = true) : f_X11_flies_L29 (g + 1) μ (nI 0) x2 = (if μ 83 0 ≤ x2 then some (μ, x2) else (f_X11_isPost (μ (78 + 0) x2.toNatClampNeg)).bind fun q5 => (if q5 = 0 then some (μ, x2) else
    (f_X4_flyAt (sub PN μ) (μ (78 + 0) x2.toNatClampNeg)).bind fun q7 => f_X11_flies_L29 g (put PN μ q7.1) (nI 0) (x2 + (1 : Int32)))) := by
  have c : (nI 0).toNatClampNeg = 0 := by decide
  have b : inb (nI 0) 4 = true := by decide
  rw [f_X11_flies_L29]
  simp only [eq_true (show nI 0 = (0 : Int32) by decide), c, b, hx, if_true, if_false, bd_eq]
theorem fl_1 (g : Nat) (μ : Mem) (x2 : Int32) (hx : inb x2 24 = true) : f_X11_flies_L29 (g + 1) μ (nI 1) x2 = (if μ 83 1 ≤ x2 then some (μ, x2) else (f_X11_isPost (μ (78 + 1) x2.toNatClampNeg)).bind fun q5 => (if q5 = 0 then some (μ, x2) else
    (f_X4_flyAt (sub PN μ) (μ (78 + 1) x2.toNatClampNeg)).bind fun q7 => f_X11_flies_L29 g (put PN μ q7.1) (nI 1) (x2 + (1 : Int32)))) := by
  have c : (nI 1).toNatClampNeg = 1 := by decide
  have b : inb (nI 1) 4 = true := by decide
  rw [f_X11_flies_L29]
  simp only [eq_true (show nI 1 = (1 : Int32) by decide), eq_false (show ¬ nI 1 = (0 : Int32) by decide), c, b, hx, if_true, if_false, bd_eq]
theorem fl_2 (g : Nat) (μ : Mem) (x2 : Int32) (hx : inb x2 24 = true) : f_X11_flies_L29 (g + 1) μ (nI 2) x2 = (if μ 83 2 ≤ x2 then some (μ, x2) else (f_X11_isPost (μ (78 + 2) x2.toNatClampNeg)).bind fun q5 => (if q5 = 0 then some (μ, x2) else
    (f_X4_flyAt (sub PN μ) (μ (78 + 2) x2.toNatClampNeg)).bind fun q7 => f_X11_flies_L29 g (put PN μ q7.1) (nI 2) (x2 + (1 : Int32)))) := by
  have c : (nI 2).toNatClampNeg = 2 := by decide
  have b : inb (nI 2) 4 = true := by decide
  rw [f_X11_flies_L29]
  simp only [eq_true (show nI 2 = (2 : Int32) by decide), eq_false (show ¬ nI 2 = (0 : Int32) by decide), eq_false (show ¬ nI 2 = (1 : Int32) by decide), c, b, hx, if_true, if_false, bd_eq]
theorem fl_3 (g : Nat) (μ : Mem) (x2 : Int32) (hx : inb x2 24 = true) : f_X11_flies_L29 (g + 1) μ (nI 3) x2 = (if μ 83 3 ≤ x2 then some (μ, x2) else (f_X11_isPost (μ (78 + 3) x2.toNatClampNeg)).bind fun q5 => (if q5 = 0 then some (μ, x2) else
    (f_X4_flyAt (sub PN μ) (μ (78 + 3) x2.toNatClampNeg)).bind fun q7 => f_X11_flies_L29 g (put PN μ q7.1) (nI 3) (x2 + (1 : Int32)))) := by
  have c : (nI 3).toNatClampNeg = 3 := by decide
  have b : inb (nI 3) 4 = true := by decide
  rw [f_X11_flies_L29]
  simp only [eq_true (show nI 3 = (3 : Int32) by decide), eq_false (show ¬ nI 3 = (0 : Int32) by decide), eq_false (show ¬ nI 3 = (1 : Int32) by decide), eq_false (show ¬ nI 3 = (2 : Int32) by decide), c, b, hx, if_true, if_false, bd_eq]
theorem fl_k {i : Nat} (hi : i < 4) (g : Nat) (μ : Mem) (x2 : Int32) (hx : inb x2 24 = true) : f_X11_flies_L29 (g + 1) μ (nI i) x2 = (if μ 83 i ≤ x2 then some (μ, x2) else (f_X11_isPost (μ (78 + i) x2.toNatClampNeg)).bind fun q5 => (if q5 = 0 then some (μ, x2) else
    (f_X4_flyAt (sub PN μ) (μ (78 + i) x2.toNatClampNeg)).bind fun q7 => f_X11_flies_L29 g (put PN μ q7.1) (nI i) (x2 + (1 : Int32)))) := by
  have : i = 0 ∨ i = 1 ∨ i = 2 ∨ i = 3 := by omega
  rcases this with e | e | e | e <;> subst e
  · exact fl_0 g μ x2 hx
  · exact fl_1 g μ x2 hx
  · exact fl_2 g μ x2 hx
  · exact fl_3 g μ x2 hx
theorem jd_0 (g : Nat) (μ : Mem) (x2 : Int32) (hx : inb x2 24 = true) : f_X11_judge_L43 (g + 1) μ (nI 0) x2 = (if μ 83 0 ≤ x2 then some (μ, x2) else (f_X4_howMany (sub PH μ)).bind fun q7 => (if μ (78 + 0) x2.toNatClampNeg = q7.2 then
    (f_X4_passMinute (sub PH (put PH μ q7.1))).bind fun q9 => f_X11_judge_L43 g (put PH (put PH μ q7.1) q9.1) (nI 0) (x2 + (1 : Int32)) else some (put PH μ q7.1, x2))) := by
  have c : (nI 0).toNatClampNeg = 0 := by decide
  have b : inb (nI 0) 4 = true := by decide
  rw [f_X11_judge_L43]
  simp only [eq_true (show nI 0 = (0 : Int32) by decide), c, b, hx, if_true, if_false, bd_eq]
theorem jd_1 (g : Nat) (μ : Mem) (x2 : Int32) (hx : inb x2 24 = true) : f_X11_judge_L43 (g + 1) μ (nI 1) x2 = (if μ 83 1 ≤ x2 then some (μ, x2) else (f_X4_howMany (sub PH μ)).bind fun q7 => (if μ (78 + 1) x2.toNatClampNeg = q7.2 then
    (f_X4_passMinute (sub PH (put PH μ q7.1))).bind fun q9 => f_X11_judge_L43 g (put PH (put PH μ q7.1) q9.1) (nI 1) (x2 + (1 : Int32)) else some (put PH μ q7.1, x2))) := by
  have c : (nI 1).toNatClampNeg = 1 := by decide
  have b : inb (nI 1) 4 = true := by decide
  rw [f_X11_judge_L43]
  simp only [eq_true (show nI 1 = (1 : Int32) by decide), eq_false (show ¬ nI 1 = (0 : Int32) by decide), c, b, hx, if_true, if_false, bd_eq]
theorem jd_2 (g : Nat) (μ : Mem) (x2 : Int32) (hx : inb x2 24 = true) : f_X11_judge_L43 (g + 1) μ (nI 2) x2 = (if μ 83 2 ≤ x2 then some (μ, x2) else (f_X4_howMany (sub PH μ)).bind fun q7 => (if μ (78 + 2) x2.toNatClampNeg = q7.2 then
    (f_X4_passMinute (sub PH (put PH μ q7.1))).bind fun q9 => f_X11_judge_L43 g (put PH (put PH μ q7.1) q9.1) (nI 2) (x2 + (1 : Int32)) else some (put PH μ q7.1, x2))) := by
  have c : (nI 2).toNatClampNeg = 2 := by decide
  have b : inb (nI 2) 4 = true := by decide
  rw [f_X11_judge_L43]
  simp only [eq_true (show nI 2 = (2 : Int32) by decide), eq_false (show ¬ nI 2 = (0 : Int32) by decide), eq_false (show ¬ nI 2 = (1 : Int32) by decide), c, b, hx, if_true, if_false, bd_eq]
theorem jd_3 (g : Nat) (μ : Mem) (x2 : Int32) (hx : inb x2 24 = true) : f_X11_judge_L43 (g + 1) μ (nI 3) x2 = (if μ 83 3 ≤ x2 then some (μ, x2) else (f_X4_howMany (sub PH μ)).bind fun q7 => (if μ (78 + 3) x2.toNatClampNeg = q7.2 then
    (f_X4_passMinute (sub PH (put PH μ q7.1))).bind fun q9 => f_X11_judge_L43 g (put PH (put PH μ q7.1) q9.1) (nI 3) (x2 + (1 : Int32)) else some (put PH μ q7.1, x2))) := by
  have c : (nI 3).toNatClampNeg = 3 := by decide
  have b : inb (nI 3) 4 = true := by decide
  rw [f_X11_judge_L43]
  simp only [eq_true (show nI 3 = (3 : Int32) by decide), eq_false (show ¬ nI 3 = (0 : Int32) by decide), eq_false (show ¬ nI 3 = (1 : Int32) by decide), eq_false (show ¬ nI 3 = (2 : Int32) by decide), c, b, hx, if_true, if_false, bd_eq]
theorem jd_k {i : Nat} (hi : i < 4) (g : Nat) (μ : Mem) (x2 : Int32) (hx : inb x2 24 = true) : f_X11_judge_L43 (g + 1) μ (nI i) x2 = (if μ 83 i ≤ x2 then some (μ, x2) else (f_X4_howMany (sub PH μ)).bind fun q7 => (if μ (78 + i) x2.toNatClampNeg = q7.2 then
    (f_X4_passMinute (sub PH (put PH μ q7.1))).bind fun q9 => f_X11_judge_L43 g (put PH (put PH μ q7.1) q9.1) (nI i) (x2 + (1 : Int32)) else some (put PH μ q7.1, x2))) := by
  have : i = 0 ∨ i = 1 ∨ i = 2 ∨ i = 3 := by omega
  rcases this with e | e | e | e <;> subst e
  · exact jd_0 g μ x2 hx
  · exact jd_1 g μ x2 hx
  · exact jd_2 g μ x2 hx
  · exact jd_3 g μ x2 hx
theorem lacks_k {ν : Mem} {i : Nat} (hi : i < 4) : f_X12_lacks ν (nI i) = some (ν, if ν 10 i = 0 then (2 : Int32) else (0 : Int32)) := by
  rcases sheet_cases (nI i) with ⟨-, e⟩ | ⟨-, e, -⟩
  · exfalso
    have h : ∀ i, i < 4 → ¬ f_X12_isSheet (nI i) = some 0 := by decide
    exact h i hi e
  · unfold f_X12_lacks
    rw [e, Option.bind_some, if_neg n1, if_pos (in_k hi (by omega)), cl_I (by omega)]
    by_cases h : ν 10 i = 0
    · rw [if_pos h, if_pos h]
    · rw [if_neg h, if_neg h]
theorem lacks_no {ν : Mem} {x : Int32} (e : f_X12_isSheet x = some 0) : f_X12_lacks ν x = some (ν, (1 : Int32)) := by
  unfold f_X12_lacks
  rw [e, Option.bind_some, if_pos rfl]
theorem miss_i {μ ν : Mem} {i : Nat} (hi : i < 4) (e : μ 82 i = ν 10 i) : f_X11_isMissing μ (nI i) = some (μ, if ν 10 i = 0 then (1 : Int32) else (0 : Int32)) := by
  unfold f_X11_isMissing
  rw [if_pos (in_k hi (by omega)), cl_I (by omega), e]
  by_cases a : ν 10 i = 0
  · rw [if_pos a, if_pos a]
  · rw [if_neg a, if_neg a]
theorem flies_L {i n : Nat} (hi : i < 4) (hn : n ≤ 24) : ∀ (r x : Nat) (μ ν : Mem) (f f' : Nat), x + r = n → r < f → r < f' → Rel μ ν → μ 83 i = nI n → ν 11 i = nI n →
    Sim RA (f_X11_flies_L29 f μ (nI i) (nI x)) (f_X12_flies_L18 f' ν (nI i) (nI x)) := by
  intro r
  induction r with
  | zero =>
    intro x μ ν f f' hx hf hf' h e83 e11
    obtain ⟨f, rfl⟩ : ∃ f1, f = f1 + 1 := ⟨f - 1, by omega⟩
    obtain ⟨f', rfl⟩ : ∃ f1, f' = f1 + 1 := ⟨f' - 1, by omega⟩
    have e : nI n ≤ nI x := by rw [nI_leI (by omega) (by omega)]; omega
    rw [f_X11_flies_L29, f_X12_flies_L18, if_pos (in_k hi (by omega)), if_pos (in_k hi (by omega)), cl_I (show i < 2 ^ 31 by omega), e83, e11, if_pos e, if_pos e]
    exact Sim.pure ⟨rfl, h⟩
  | succ r ih =>
    intro x μ ν f f' hx hf hf' h e83 e11
    obtain ⟨f, rfl⟩ : ∃ f1, f = f1 + 1 := ⟨f - 1, by omega⟩
    obtain ⟨f', rfl⟩ : ∃ f1, f' = f1 + 1 := ⟨f' - 1, by omega⟩
    have e : ¬ nI n ≤ nI x := by rw [nI_leI (by omega) (by omega)]; omega
    have ev := (h.sh i hi).2.2.2 x (by omega)
    have b96 := in_k (show 24 * i + x < 96 by omega) (by omega)
    rw [fl_k hi f μ _ (in_k (show x < 24 by omega) (by omega)), f_X12_flies_L18, if_pos (in_k hi (by omega)), cl_I (show i < 2 ^ 31 by omega), cl_I (show x < 2 ^ 31 by omega), e83, e11, if_neg e, if_neg e,
      show (24 : Int32) = nI 24 from rfl, nI_mulI, nI_add, if_pos b96, cl_I (show 24 * i + x < 2 ^ 31 by omega), ev]
    rcases one_cases (ν 12 (24 * i + x)) with ⟨-, e1, e3⟩ | ⟨-, e1, e3, p, hp, ep⟩
    · rw [e1, e3, Option.bind_some, Option.bind_some, if_pos rfl, if_pos rfl]
      exact Sim.pure ⟨rfl, h⟩
    · rw [e1, e3, Option.bind_some, Option.bind_some, if_neg n1, if_neg n1, if_pos b96, ep]
      obtain ⟨⟨q, hq, r0⟩, z⟩ := id h.nr
      refine (fly_ok (by omega) r0 z hp).bind ?_
      rintro ⟨a, y⟩ ⟨b, w⟩ ⟨e, r1, f1, z1, -⟩
      obtain rfl : y = w := e
      have o := NR.back hq r1 f1 z1 y
      have hr := h.or o
      rw [show nI x + (1 : Int32) = nI (x + 1) from nI_1 x]
      refine ih (x + 1) _ _ f f' (by omega) (by omega) (by omega) hr.2 ?_ ?_
      · show put PN μ a 83 i = nI n
        rw [show put PN μ a 83 = μ 83 from o.2.2.a 83 (by decide)]; exact e83
      · show b 11 i = nI n
        rw [show b 11 = ν 11 from o.2.2.b 11 (by decide)]; exact e11
theorem flies_op {μ ν : Mem} (h : Rel μ ν) (x : Int32) : Sim RA (f_X11_flies μ x) (f_X12_flies ν x) := by
  have E1 : Sim RA ((f_X11_fails μ (1 : Int32)).bind fun q => some (q.1, q.2)) ((f_X12_error ν (1 : Int32)).bind fun q => some (q.1, q.2)) := h.err (c := 1) (by omega)
  have E2 : Sim RA ((f_X11_fails μ (2 : Int32)).bind fun q => some (q.1, q.2)) ((f_X12_error ν (2 : Int32)).bind fun q => some (q.1, q.2)) := h.err (c := 2) (by omega)
  unfold f_X11_flies f_X12_flies
  rcases sheet_cases x with ⟨e1, e2⟩ | ⟨e1, e2, i, hi, rfl⟩
  · rw [e1, lacks_no e2, Option.bind_some, Option.bind_some, if_pos rfl, if_neg (show ¬ (1 : Int32) ≤ 0 by decide)]
    exact E1
  · obtain ⟨e82, -, ⟨n, n24, e83, e11⟩, -⟩ := h.sh i hi
    rw [e1, lacks_k hi, miss_i hi e82, Option.bind_some, Option.bind_some, if_neg n1, Option.bind_some]
    by_cases a : ν 10 i = 0
    · rw [if_pos a, if_pos a, if_neg n1, if_neg (show ¬ (2 : Int32) ≤ 0 by decide)]
      exact E2
    · rw [if_neg a, if_neg a, if_pos rfl, if_pos (show (0 : Int32) ≤ 0 by decide), show (0 : Int32) = nI 0 from rfl]
      exact flies_L hi n24 n 0 μ ν fuel0 fuel0 (by omega) (fuel_ge n (by omega)) (fuel_ge n (by omega)) h e83 e11
theorem n78LA : ∀ i, i < 4 → 78 + i ∉ LA := by decide
theorem judge_L {q i n : Nat} (hq : q ≤ 9999) (hi : i < 4) (hn : n ≤ 24) {μ ν : Mem} (R : Rel μ ν) (e83 : μ 83 i = nI n) (e11 : ν 11 i = nI n) : ∀ (r x : Nat) (a b : Mem) (f f' : Nat), x + r = n → r < f → r < f' → AH (q + x) μ ν a b →
    Sim RA (f_X11_judge_L43 f a (nI i) (nI x)) (f_X12_judge_L23 f' b (nI i) (nI x)) := by
  intro r
  induction r with
  | zero =>
    intro x a b f f' hx hf hf' k
    obtain ⟨f, rfl⟩ : ∃ f1, f = f1 + 1 := ⟨f - 1, by omega⟩
    obtain ⟨f', rfl⟩ : ∃ f1, f' = f1 + 1 := ⟨f' - 1, by omega⟩
    have e : nI n ≤ nI x := by rw [nI_leI (by omega) (by omega)]; omega
    have a83 : a 83 = μ 83 := k.2.1 83 (by decide)
    have b11 : b 11 = ν 11 := k.2.2.1.1 11 (by decide)
    rw [f_X11_judge_L43, f_X12_judge_L23, if_pos (in_k hi (by omega)), if_pos (in_k hi (by omega)), cl_I (show i < 2 ^ 31 by omega), a83, b11, e83, e11, if_pos e, if_pos e, back_ok]
    exact Sim.pure ⟨rfl, R.fa k.fa⟩
  | succ r ih =>
    intro x a b f f' hx hf hf' k
    obtain ⟨f, rfl⟩ : ∃ f1, f = f1 + 1 := ⟨f - 1, by omega⟩
    obtain ⟨f', rfl⟩ : ∃ f1, f' = f1 + 1 := ⟨f' - 1, by omega⟩
    have e : ¬ nI n ≤ nI x := by rw [nI_leI (by omega) (by omega)]; omega
    have ev := (R.sh i hi).2.2.2 x (by omega)
    have b96 := in_k (show 24 * i + x < 96 by omega) (by omega)
    have a83 : a 83 = μ 83 := k.2.1 83 (by decide)
    have a78 : a (78 + i) = μ (78 + i) := k.2.1 (78 + i) (n78LA i hi)
    have b11 : b 11 = ν 11 := k.2.2.1.1 11 (by decide)
    have b12 : b 12 = ν 12 := k.2.2.1.1 12 (by decide)
    rw [jd_k hi f a _ (in_k (show x < 24 by omega) (by omega)), f_X12_judge_L23, if_pos (in_k hi (by omega)), cl_I (show i < 2 ^ 31 by omega), cl_I (show x < 2 ^ 31 by omega), a83, b11, e83, e11, if_neg e, if_neg e,
      show (24 : Int32) = nI 24 from rfl, nI_mulI, nI_add, if_pos b96, cl_I (show 24 * i + x < 2 ^ 31 by omega), a78, b12, ev, many4_ok k.1, many_ok k.1, Option.bind_some, Option.bind_some, put_self]
    by_cases c : ν 12 (24 * i + x) = nI (cnt (sub PH a))
    · rw [if_pos c, if_pos c]
      refine (min_ok2 (q := q + x) (by omega) k.1).bind ?_
      rintro ⟨α, y⟩ ⟨β, w⟩ ⟨-, r1, f1, z1, -⟩
      rw [show nI x + (1 : Int32) = nI (x + 1) from nI_1 x]
      exact ih (x + 1) _ _ f f' (by omega) (by omega) (by omega) (k.go r1 f1 z1)
    · rw [if_neg c, if_neg c, back_ok]
      exact Sim.pure ⟨rfl, R.fa k.fa⟩
theorem judge_op {μ ν : Mem} (h : Rel μ ν) (x : Int32) : Sim RA (f_X11_judge μ x) (f_X12_judge ν x) := by
  have E1 : Sim RA ((f_X11_fails μ (1 : Int32)).bind fun q => some (q.1, q.2)) ((f_X12_error ν (1 : Int32)).bind fun q => some (q.1, q.2)) := h.err (c := 1) (by omega)
  have E2 : Sim RA ((f_X11_fails μ (2 : Int32)).bind fun q => some (q.1, q.2)) ((f_X12_error ν (2 : Int32)).bind fun q => some (q.1, q.2)) := h.err (c := 2) (by omega)
  unfold f_X11_judge f_X12_judge
  rcases sheet_cases x with ⟨e1, e2⟩ | ⟨e1, e2, i, hi, rfl⟩
  · rw [e1, lacks_no e2, Option.bind_some, Option.bind_some, if_pos rfl, if_neg (show ¬ (1 : Int32) ≤ 0 by decide)]
    exact E1
  · obtain ⟨e82, -, ⟨n, n24, e83, e11⟩, -⟩ := h.sh i hi
    rw [e1, lacks_k hi, miss_i hi e82, Option.bind_some, Option.bind_some, if_neg n1, Option.bind_some]
    by_cases a : ν 10 i = 0
    · rw [if_pos a, if_pos a, if_neg n1, if_neg (show ¬ (2 : Int32) ≤ 0 by decide)]
      exact E2
    · rw [if_neg a, if_neg a, if_pos rfl, if_pos (show (0 : Int32) ≤ 0 by decide), copy4, down_ok, Option.bind_some, Option.bind_some, bd_eq, show (0 : Int32) = nI 0 from rfl]
      obtain ⟨⟨q, hq, r⟩, z⟩ := id h.nr
      exact judge_L hq hi n24 h e83 e11 n 0 _ _ fuel0 fuel0 (by omega) (fuel_ge n (by omega)) (fuel_ge n (by omega)) (AH.mk r z)
