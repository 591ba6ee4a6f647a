def Sim {α β : Type} (R : α → β → Prop) (x : Option α) (y : Option β) : Prop := ∃ a b, x = some a ∧ y = some b ∧ R a b
theorem Sim.pure {α β : Type} {R : α → β → Prop} {a : α} {b : β} (h : R a b) : Sim R (some a) (some b) := ⟨a, b, rfl, rfl, h⟩
theorem Sim.bind {α β γ δ : Type} {R : α → β → Prop} {S : γ → δ → Prop} {x : Option α} {y : Option β} {f : α → Option γ} {g : β → Option δ}
    (h : Sim R x y) (k : ∀ a b, R a b → Sim S (f a) (g b)) : Sim S (x.bind f) (y.bind g) := by
  obtain ⟨a, b, rfl, rfl, hr⟩ := h
  exact k a b hr
theorem Sim.mono {α β : Type} {R S : α → β → Prop} {x : Option α} {y : Option β} (h : Sim R x y) (k : ∀ a b, R a b → S a b) : Sim S x y := by
  obtain ⟨a, b, h1, h2, hr⟩ := h
  exact ⟨a, b, h1, h2, k a b hr⟩
theorem inb_iff {j n : Nat} (h : j < 2 ^ 31) : (inb (nI j) n = true) ↔ j < n := by
  unfold inb
  rw [nI_toInt h]
  simp
theorem cl_I {j : Nat} (h : j < 2 ^ 31) : (nI j).toNatClampNeg = j := nI_clamp h
theorem nI_mulI (a b : Nat) : nI a * nI b = nI (a * b) := (Int32.ofNat_mul a b).symm
theorem nI_subI {a b : Nat} (h : b ≤ a) : nI a - nI b = nI (a - b) := by
  have : nI (a - b) + nI b = nI a := by rw [nI_add, Nat.sub_add_cancel h]
  rw [← this, Int32.add_sub_cancel]
theorem nI_inj {a b : Nat} (ha : a < 2 ^ 31) (hb : b < 2 ^ 31) : (nI a = nI b) ↔ a = b := by
  rw [← Int32.toInt_inj, nI_toInt ha, nI_toInt hb]; omega
/-- outside the places of P nothing has changed -/
def Off (P : List Nat) (μ μ' : Mem) : Prop := ∀ a, a ∉ P → μ' a = μ a
theorem Off.refl (P : List Nat) (μ : Mem) : Off P μ μ := fun _ _ => rfl
theorem Off.trans {P : List Nat} {μ μ1 μ2 : Mem} (h : Off P μ μ1) (k : Off P μ1 μ2) : Off P μ μ2 := fun a ha => (k a ha).trans (h a ha)
theorem Off.upA {P : List Nat} {μ : Mem} {c : Nat} {g : Nat → Int32} (h : c ∈ P) : Off P μ (upA μ c g) := fun a ha => by
  have : a ≠ c := fun e => ha (e ▸ h)
  show (if a = c then g else μ a) = μ a
  rw [if_neg this]
theorem upA_s (μ : Mem) (c : Nat) (g : Nat → Int32) : upA μ c g c = g := by simp [upA]
theorem upA_o (μ : Mem) {c a : Nat} (g : Nat → Int32) (h : a ≠ c) : upA μ c g a = μ a := by simp [upA, h]
theorem upd_s (f : Nat → Int32) (k : Nat) (x : Int32) : upd f k x k = x := by simp [upd]
theorem upd_o (f : Nat → Int32) {k j : Nat} (x : Int32) (h : j ≠ k) : upd f k x j = f j := by simp [upd, h]
theorem i32_divm1 (x : Int32) : x / (-1 : Int32) = -x := by
  rw [← Int32.toInt_inj, Int32.toInt_div, Int32.toInt_neg]; simp
theorem jn_a (x y : Int32) : (if y = 0 then some (0 : Int32) else if y = (-1 : Int32) then some 0 else if ¬ y = 0 then some (x - x / y * y) else none)
    = (if y = 0 then some 0 else if ¬ y = 0 then some (x - x / y * y) else none) := by
  by_cases h0 : y = 0
  · rw [if_pos h0, if_pos h0]
  · rw [if_neg h0, if_neg h0]
    by_cases h1 : y = (-1 : Int32)
    · rw [if_pos h1, if_pos h0, h1, i32_divm1, Int32.neg_mul, Int32.mul_neg, Int32.neg_neg, Int32.mul_one, Int32.sub_self]
    · rw [if_neg h1]
theorem jn_b (x y : Int32) : (if y = 0 then some (0 : Int32) else if y = (-1 : Int32) then some (-x) else if ¬ y = 0 then some (x / y) else none)
    = (if y = 0 then some 0 else if ¬ y = 0 then some (x / y) else none) := by
  by_cases h0 : y = 0
  · rw [if_pos h0, if_pos h0]
  · rw [if_neg h0, if_neg h0]
    by_cases h1 : y = (-1 : Int32)
    · rw [if_pos h1, if_pos h0, h1, i32_divm1]
    · rw [if_neg h1]
theorem jn_c (c : Prop) [Decidable c] (a b : Option Int32) (ha : ∃ r, a = some r) (hb : ∃ r, b = some r) : ∃ r, (if c then a else b) = some r := by
  by_cases h : c
  · rw [if_pos h]; exact ha
  · rw [if_neg h]; exact hb
theorem joined_same (c x y : Int32) : f_X12_joined c x y = f_X1_joined c x y := by
  unfold f_X12_joined f_X1_joined
  rw [jn_a, jn_b]
theorem joined_eq (c x y : Int32) : ∃ r, f_X1_joined c x y = some r ∧ f_X12_joined c x y = some r := by
  have : ∃ r, f_X1_joined c x y = some r := by
    unfold f_X1_joined
    refine jn_c _ _ _ ?_ (jn_c _ _ _ ?_ (jn_c _ _ _ ⟨_, rfl⟩ (jn_c _ _ _ ⟨_, rfl⟩ (jn_c _ _ _ ⟨_, rfl⟩ (jn_c _ _ _ ?_ (jn_c _ _ _ ?_ (jn_c _ _ _ ?_ (jn_c _ _ _ ?_ ?_))))))))
    · by_cases h : y = 0
      · rw [if_pos h]; exact ⟨_, rfl⟩
      · rw [if_neg h, if_pos h]; exact ⟨_, rfl⟩
    · exact jn_c _ _ _ ⟨_, rfl⟩ (jn_c _ _ _ ⟨_, rfl⟩ ⟨_, rfl⟩)
    · by_cases h : y = 0
      · rw [if_pos h]; exact ⟨_, rfl⟩
      · rw [if_neg h, if_pos h]; exact ⟨_, rfl⟩
    · exact jn_c _ _ _ ⟨_, rfl⟩ ⟨_, rfl⟩
    · exact jn_c _ _ _ ⟨_, rfl⟩ ⟨_, rfl⟩
    · exact jn_c _ _ _ ⟨_, rfl⟩ ⟨_, rfl⟩
    · exact jn_c _ _ _ (jn_c _ _ _ ⟨_, rfl⟩ ⟨_, rfl⟩) ⟨_, rfl⟩
  obtain ⟨r, h⟩ := this
  exact ⟨r, h, (joined_same c x y).trans h⟩
/-- one step of a law, in both shapes; d, d' the depths before and behind it -/
def StepOK (u : Nat) (v a b : Int32) (d d' : Nat) : Prop :=
  (0 ≤ v ∧ a = 0 ∧ b = v ∧ d < 60 ∧ d' = d + 1) ∨
  ((b = nI 109 ∨ b = nI 112 ∨ b = nI (if u = 0 then 115 else 100)) ∧ v = -b ∧ a = 1 ∧ d < 60 ∧ d' = d + 1) ∨
  (v = -(33 : Int32) ∧ a = 2 ∧ 1 ≤ d ∧ d' = d) ∨
  (v < 0 ∧ v = -b ∧ b ≠ 33 ∧ b ≠ 100 ∧ b ≠ 109 ∧ b ≠ 112 ∧ b ≠ 115 ∧ a = 3 ∧ 2 ≤ d ∧ d' + 1 = d)
/-- a law of the class (over its four places) and law u of the reference -/
def LR (u : Nat) (lam ν : Mem) : Prop := ∃ n, n ≤ 60 ∧ lam 0 3 = nI n ∧ ν 1 (53 + 125 * u) = nI n ∧
  ∃ dep : Nat → Nat, dep 0 = 0 ∧ ∀ j, j < n → StepOK u (lam 2 j) (ν 1 (54 + 125 * u + 2 * j)) (ν 1 (55 + 125 * u + 2 * j)) (dep j) (dep (j + 1))
/-- the two run a law's steps alike -/
theorem gw_loop {u n : Nat} (hu : u < 2) (hn : n ≤ 60) {dep : Nat → Nat} (cv s1 nm : Nat → Int32) {x1 x2 x3 : Int32}
    (hp : ∀ j, j < n → StepOK u (cv j) (s1 (54 + 125 * u + 2 * j)) (s1 (55 + 125 * u + 2 * j)) (dep j) (dep (j + 1)))
    (hs : s1 (53 + 125 * u) = nI n)
    (h9 : nm 109 = x3) (h2 : nm 112 = x2) (h5 : nm (if u = 0 then 115 else 100) = x1) :
    ∀ (r j : Nat) (lam ν : Mem) (f g : Nat), j + r = n → r < f → r < g → lam 0 3 = nI n → lam 2 = cv → ν 1 = s1 → ν 6 = nm →
      (∀ i, i < dep j → lam 1 i = ν 7 i) → (0 < j → 0 < dep j) → dep j ≤ j → (0 < n ∨ 0 < dep j) →
      Sim (fun a b => a.2 = b.2 ∧ Off [1] lam a.1 ∧ Off [7] ν b.1)
        (f_X1_gives_L6 f lam x1 x2 x3 (nI (dep j)) (nI j)) (f_X12_worked_L13 g ν (nI (53 + 125 * u)) (nI (dep j)) (nI j)) := by
  intro r
  induction r with
  | zero =>
    intro j lam ν f g hj hf hg h0 hc h1 h6 hst hd hd6 hpos
    obtain ⟨f, rfl⟩ : ∃ f', f = f' + 1 := ⟨f - 1, by omega⟩
    obtain ⟨g, rfl⟩ : ∃ g', g = g' + 1 := ⟨g - 1, by omega⟩
    have hjn : j = n := by omega
    subst hjn
    have hb1 : inb (nI (53 + 125 * u)) 387 = true := (inb_iff (by omega)).mpr (by omega)
    have hb0 : inb (0 : Int32) 60 = true := by decide
    have hb2 : inb (0 : Int32) 64 = true := by decide
    have hle : nI j ≤ nI j := Int32.le_refl _
    unfold f_X1_gives_L6 f_X12_worked_L13
    rw [h0, if_pos hle, if_pos hb0, if_pos hb1, cl_I (by omega), h1, hs, if_pos hle, if_pos hb2]
    refine Sim.pure ⟨hst 0 ?_, Off.refl _ _, Off.refl _ _⟩
    rcases Nat.eq_zero_or_pos j with h | h
    · omega
    · exact hd h
  | succ r ih =>
    intro j lam ν f g hj hf hg h0 hc h1 h6 hst hd hd6 hpos
    obtain ⟨f, rfl⟩ : ∃ f', f = f' + 1 := ⟨f - 1, by omega⟩
    obtain ⟨g, rfl⟩ : ∃ g', g = g' + 1 := ⟨g - 1, by omega⟩
    have hjn : j < n := by omega
    have hb1 : inb (nI (53 + 125 * u)) 387 = true := (inb_iff (by omega)).mpr (by omega)
    have e0 : ¬ nI n ≤ nI j := by rw [nI_leI (by omega) (by omega)]; omega
    have e6 : ¬ (60 : Int32) ≤ nI (dep j) := by
      rw [show (60 : Int32) = nI 60 from rfl, nI_leI (by omega) (by omega)]; omega
    have ej : inb (nI j) 60 = true := (inb_iff (by omega)).mpr (by omega)
    have ea : (nI (53 + 125 * u) + (1 : Int32)) + (2 : Int32) * nI j = nI (54 + 125 * u + 2 * j) := by
      rw [show (1 : Int32) = nI 1 from rfl, show (2 : Int32) = nI 2 from rfl, nI_mulI, nI_add, nI_add]; congr 1; omega
    have eb : (nI (53 + 125 * u) + (2 : Int32)) + (2 : Int32) * nI j = nI (55 + 125 * u + 2 * j) := by
      rw [show (2 : Int32) = nI 2 from rfl, nI_mulI, nI_add, nI_add]; congr 1; omega
    have eai : inb (nI (54 + 125 * u + 2 * j)) 387 = true := (inb_iff (by omega)).mpr (by omega)
    have ebi : inb (nI (55 + 125 * u + 2 * j)) 387 = true := (inb_iff (by omega)).mpr (by omega)
    have ej1 : nI j + (1 : Int32) = nI (j + 1) := nI_1 j
    unfold f_X1_gives_L6 f_X12_worked_L13
    have kj : (nI j).toNatClampNeg = j := cl_I (by omega)
    have kb : (nI (53 + 125 * u)).toNatClampNeg = 53 + 125 * u := cl_I (by omega)
    have kA : (nI (54 + 125 * u + 2 * j)).toNatClampNeg = 54 + 125 * u + 2 * j := cl_I (by omega)
    have kB : (nI (55 + 125 * u + 2 * j)).toNatClampNeg = 55 + 125 * u + 2 * j := cl_I (by omega)
    simp only [bd]
    rw [h0, if_neg e0, if_neg e6, if_pos ej, if_pos hb1, kb, h1, hs, if_neg e0, ea, eb, if_pos eai, if_pos ebi, kA, kB, kj, hc, ej1]
    have hq := hp j hjn
    generalize hv : cv j = v at hq ⊢
    generalize ha : s1 (54 + 125 * u + 2 * j) = a at hq ⊢
    generalize hb : s1 (55 + 125 * u + 2 * j) = b at hq ⊢
    -- what a push does
    have push : ∀ (w : Int32), dep j < 60 → dep (j + 1) = dep j + 1 →
        Sim (fun a b => a.2 = b.2 ∧ Off [1] lam a.1 ∧ Off [7] ν b.1)
          (f_X1_gives_L6 f (upA lam 1 (upd (lam 1) (dep j) w)) x1 x2 x3 (nI (dep j) + 1) (nI (j + 1)))
          (f_X12_worked_L13 g (upA ν 7 (upd (ν 7) (dep j) w)) (nI (53 + 125 * u)) (nI (dep j) + 1) (nI (j + 1))) := by
      intro w hd60 hdd
      rw [nI_1, ← hdd]
      refine (ih (j + 1) _ _ f g (by omega) (by omega) (by omega) ?_ ?_ ?_ ?_ ?_ ?_ ?_ ?_).mono ?_
      · rw [upA_o _ _ (by decide)]; exact h0
      · rw [upA_o _ _ (by decide)]; exact hc
      · rw [upA_o _ _ (by decide)]; exact h1
      · rw [upA_o _ _ (by decide)]; exact h6
      · intro i hi
        rw [upA_s, upA_s]
        by_cases hi2 : i = dep j
        · rw [hi2, upd_s, upd_s]
        · rw [upd_o _ _ hi2, upd_o _ _ hi2]; exact hst i (by omega)
      · omega
      · omega
      · omega
      · rintro a b ⟨q1, q2, q3⟩
        exact ⟨q1, (Off.upA (by decide)).trans q2, (Off.upA (by decide)).trans q3⟩
    have d6 : inb (nI (dep j)) 60 = true := (inb_iff (by omega)).mpr (by omega)
    have d64 : inb (nI (dep j)) 64 = true := (inb_iff (by omega)).mpr (by omega)
    have dcl : (nI (dep j)).toNatClampNeg = dep j := cl_I (by omega)
    rcases hq with ⟨c1, c2, c3, c4, c5⟩ | ⟨c1, c2, c3, c4, c5⟩ | ⟨c1, c2, c3, c4⟩ | ⟨c1, c2, c3, c4, c6, c7, c8, c9, c10, c11⟩
    · have n1 : ¬ v < 0 := Int32.not_lt.mpr c1
      rw [if_neg n1, c2, if_pos rfl, if_pos d6, dcl]
      unfold f_X12_worked_L65
      rw [if_pos rfl, if_pos d64, dcl, c3]
      simp only [bd]
      rw [ej1]
      exact push v c4 c5
    · have hb3 : ∃ k, b = nI k ∧ (k = 109 ∨ k = 112 ∨ k = if u = 0 then 115 else 100) := by
        rcases c1 with h | h | h
        · exact ⟨_, h, Or.inl rfl⟩
        · exact ⟨_, h, Or.inr (Or.inl rfl)⟩
        · exact ⟨_, h, Or.inr (Or.inr rfl)⟩
      obtain ⟨k, hk, hk3⟩ := hb3
      have hk7 : k < 128 := by
        rcases hk3 with h | h | h
        · omega
        · omega
        · rw [h]; split <;> omega
      have R : f_X12_worked_L65 (f_X12_worked_L13 g) ν (nI (53 + 125 * u)) (nI (dep j)) (nI j) a b = f_X12_worked_L13 g (upA ν 7 (upd (ν 7) (dep j) (nm k))) (nI (53 + 125 * u)) (nI (dep j) + 1) (nI (j + 1)) := by
        unfold f_X12_worked_L65
        rw [c3, if_neg (show ¬ (1 : Int32) = 0 by decide), hk, if_pos ((inb_iff (by omega)).mpr hk7), if_pos d64, dcl, cl_I (by omega), h6, ej1]
        rfl
      rw [R, c3, if_neg (show ¬ (1 : Int32) = 0 by decide), if_pos (show (1 : Int32) = 1 from rfl)]
      have hneg : v < 0 := by
        rw [c2, hk]
        rcases hk3 with h | h | h
        · rw [h]; decide
        · rw [h]; decide
        · rw [h]; split <;> decide
      have hvb : -v = nI k := by rw [c2, Int32.neg_neg, hk]
      rw [if_pos hneg, hvb]
      have p := fun w => push w c4 c5
      rcases Nat.lt_or_ge u 1 with hu1 | hu1
      · have hu0 : u = 0 := by omega
        rw [if_pos hu0] at h5 hk3
        rcases hk3 with h | h | h
        · subst h
          rw [if_neg (by decide), if_neg (by decide), if_pos (by decide), if_pos d6, dcl, h9]; exact p _
        · subst h
          rw [if_neg (by decide), if_neg (by decide), if_neg (by decide), if_pos (by decide), if_pos d6, dcl, h2]; exact p _
        · subst h
          rw [if_neg (by decide), if_neg (by decide), if_neg (by decide), if_neg (by decide), if_pos (by decide), if_pos d6, dcl, h5]; exact p _
      · have hu0 : ¬ u = 0 := by omega
        rw [if_neg hu0] at h5 hk3
        rcases hk3 with h | h | h
        · subst h
          rw [if_neg (by decide), if_neg (by decide), if_pos (by decide), if_pos d6, dcl, h9]; exact p _
        · subst h
          rw [if_neg (by decide), if_neg (by decide), if_neg (by decide), if_pos (by decide), if_pos d6, dcl, h2]; exact p _
        · subst h
          rw [if_neg (by decide), if_pos (by decide), if_pos d6, dcl, h5]; exact p _
    · have hneg : v < 0 := by rw [c1]; decide
      have hv3 : -v = 33 := by rw [c1]; decide
      have hd1 : ¬ nI (dep j) < 1 := by rw [show (1 : Int32) = nI 1 from rfl, nI_ltI (by omega) (by omega)]; omega
      have es : nI (dep j) - 1 = nI (dep j - 1) := by rw [show (1 : Int32) = nI 1 from rfl, nI_subI c3]
      have b6 : inb (nI (dep j - 1)) 60 = true := (inb_iff (by omega)).mpr (by omega)
      have b64 : inb (nI (dep j - 1)) 64 = true := (inb_iff (by omega)).mpr (by omega)
      have bcl : (nI (dep j - 1)).toNatClampNeg = dep j - 1 := cl_I (by omega)
      rw [if_pos hneg, hv3, if_pos rfl, if_neg hd1, es, if_pos b6, if_pos b6, if_pos b6, bcl, c2, if_neg (show ¬ (2 : Int32) = 0 by decide), if_neg (show ¬ (2 : Int32) = 1 by decide), if_pos rfl, if_pos b64, if_pos b64, if_pos b64,
        hst (dep j - 1) (by omega)]
      have put1 : ∀ (w : Int32),
        Sim (fun a b => a.2 = b.2 ∧ Off [1] lam a.1 ∧ Off [7] ν b.1)
          (f_X1_gives_L6 f (upA lam 1 (upd (lam 1) (dep j - 1) w)) x1 x2 x3 (nI (dep j)) (nI (j + 1)))
          (f_X12_worked_L13 g (upA ν 7 (upd (ν 7) (dep j - 1) w)) (nI (53 + 125 * u)) (nI (dep j)) (nI (j + 1))) := by
        intro w
        rw [← c4]
        refine (ih (j + 1) _ _ f g (by omega) (by omega) (by omega) ?_ ?_ ?_ ?_ ?_ ?_ ?_ ?_).mono ?_
        · rw [upA_o _ _ (by decide)]; exact h0
        · rw [upA_o _ _ (by decide)]; exact hc
        · rw [upA_o _ _ (by decide)]; exact h1
        · rw [upA_o _ _ (by decide)]; exact h6
        · intro i hi
          rw [upA_s, upA_s]
          by_cases hi2 : i = dep (j + 1) - 1
          · rw [hi2, upd_s, upd_s]
          · rw [upd_o _ _ hi2, upd_o _ _ hi2]; exact hst i (by omega)
        · omega
        · omega
        · omega
        · rintro a b ⟨q1, q2, q3⟩
          exact ⟨q1, (Off.upA (by decide)).trans q2, (Off.upA (by decide)).trans q3⟩
      by_cases hz : ν 7 (dep j - 1) = 0
      · rw [if_pos hz, if_pos hz]; exact put1 1
      · rw [if_neg hz, if_neg hz]; exact put1 0
    · have hvb : -v = b := by rw [c2, Int32.neg_neg]
      have es : nI (dep j) + (-1 : Int32) = nI (dep j - 1) := by
        rw [show (-1 : Int32) = -nI 1 from rfl, ← Int32.sub_eq_add_neg, nI_subI (by omega)]
      have es2 : nI (dep j - 1) - (1 : Int32) = nI (dep j - 2) := by
        rw [show (1 : Int32) = nI 1 from rfl, nI_subI (by omega)]; congr 1
      have hd2 : ¬ nI (dep j) < 2 := by rw [show (2 : Int32) = nI 2 from rfl, nI_ltI (by omega) (by omega)]; omega
      have a6 : inb (nI (dep j - 1)) 60 = true := (inb_iff (by omega)).mpr (by omega)
      have a64 : inb (nI (dep j - 1)) 64 = true := (inb_iff (by omega)).mpr (by omega)
      have acl : (nI (dep j - 1)).toNatClampNeg = dep j - 1 := cl_I (by omega)
      have b6 : inb (nI (dep j - 2)) 60 = true := (inb_iff (by omega)).mpr (by omega)
      have b64 : inb (nI (dep j - 2)) 64 = true := (inb_iff (by omega)).mpr (by omega)
      have bcl : (nI (dep j - 2)).toNatClampNeg = dep j - 2 := cl_I (by omega)
      rw [if_pos c1, hvb, if_neg c3, if_neg c4, if_neg c6, if_neg c7, if_neg c8, if_neg hd2, es, es2, if_pos b6, if_pos a6, bcl, acl, c9,
        if_neg (show ¬ (3 : Int32) = 0 by decide), if_neg (show ¬ (3 : Int32) = 1 by decide), if_neg (show ¬ (3 : Int32) = 2 by decide), if_pos b64, if_pos a64, hst (dep j - 1) (by omega), hst (dep j - 2) (by omega)]
      obtain ⟨w, hw1, hw2⟩ := joined_eq b (ν 7 (dep j - 2)) (ν 7 (dep j - 1))
      rw [hw1, hw2]
      simp only [Option.bind_some]
      rw [if_pos b6, if_pos b64, show dep j - 1 = dep (j + 1) by omega]
      refine (ih (j + 1) _ _ f g (by omega) (by omega) (by omega) ?_ ?_ ?_ ?_ ?_ ?_ ?_ ?_).mono ?_
      · rw [upA_o _ _ (by decide)]; exact h0
      · rw [upA_o _ _ (by decide)]; exact hc
      · rw [upA_o _ _ (by decide)]; exact h1
      · rw [upA_o _ _ (by decide)]; exact h6
      · intro i hi
        rw [upA_s, upA_s]
        by_cases hi2 : i = dep j - 2
        · rw [hi2, upd_s, upd_s]
        · rw [upd_o _ _ hi2, upd_o _ _ hi2]; exact hst i (by omega)
      · omega
      · omega
      · omega
      · rintro a b ⟨q1, q2, q3⟩
        exact ⟨q1, (Off.upA (by decide)).trans q2, (Off.upA (by decide)).trans q3⟩
