/-! the readers of texts, side by side -/
abbrev TP (u n : Nat) (lam nu : Mem) : Prop := u < 2 ∧ n ≤ 60 ∧ lam 0 7 = nI n ∧ nu 1 2 = nI n ∧ nu 0 8 = nI u ∧ lam 0 0 = nI (if u = 0 then 115 else 100) ∧
  ∀ j, j < 60 → ∃ v, v < 256 ∧ nu 1 (303 + j) = nI v ∧ lam 4 j = if v < 128 then nI v else nI v - 256
abbrev FP (lam nu lam' nu' : Mem) : Prop := Off [0, 3] lam lam' ∧ (∀ i, i ≠ 5 → i ≠ 8 → lam' 0 i = lam 0 i) ∧ Off [0, 5] nu nu' ∧ ∀ i, i ≠ 5 → i ≠ 6 → i ≠ 7 → nu' 0 i = nu 0 i
theorem FP.refl (lam nu : Mem) : FP lam nu lam nu := ⟨Off.refl _ _, fun _ _ _ => rfl, Off.refl _ _, fun _ _ _ _ => rfl⟩
theorem FP.trans {a b c d e f : Mem} (h : FP a b c d) (k : FP c d e f) : FP a b e f :=
  ⟨h.1.trans k.1, fun i h5 h8 => (k.2.1 i h5 h8).trans (h.2.1 i h5 h8), h.2.2.1.trans k.2.2.1, fun i h5 h6 h7 => (k.2.2.2 i h5 h6 h7).trans (h.2.2.2 i h5 h6 h7)⟩
theorem TP.fp {u n : Nat} {lam nu lam' nu' : Mem} (t : TP u n lam nu) (f : FP lam nu lam' nu') : TP u n lam' nu' := by
  obtain ⟨a, b, c, d, e, g, h⟩ := t
  refine ⟨a, b, by rw [f.2.1 7 (by decide) (by decide)]; exact c, by rw [f.2.2.1 1 (by decide)]; exact d, by rw [f.2.2.2 8 (by decide) (by decide) (by decide)]; exact e,
    by rw [f.2.1 0 (by decide) (by decide)]; exact g, fun j hj => ?_⟩
  rw [f.2.2.1 1 (by decide), f.1 4 (by decide)]
  exact h j hj
def CO (u c D : Nat) (g s : Nat → Int32) : Prop := ∃ dep : Nat → Nat, dep 0 = 0 ∧ dep c = D ∧ ∀ j, j < c → StepOK u (g j) (s (2 * j)) (s (2 * j + 1)) (dep j) (dep (j + 1))
theorem CO.step {u c D D' : Nat} {g s : Nat → Int32} {v a b : Int32} (h : CO u c D g s) (k : StepOK u v a b D D') :
    CO u (c + 1) D' (upd g c v) (upd (upd s (2 * c) a) (2 * c + 1) b) := by
  obtain ⟨dep, d0, dc, hs⟩ := h
  refine ⟨fun j => if j ≤ c then dep j else D', ?_, ?_, ?_⟩
  · show (if 0 ≤ c then dep 0 else D') = 0
    rw [if_pos (by omega)]; exact d0
  · show (if c + 1 ≤ c then dep (c + 1) else D') = D'
    rw [if_neg (by omega)]
  · intro j hj
    show StepOK u _ _ _ (if j ≤ c then dep j else D') (if j + 1 ≤ c then dep (j + 1) else D')
    by_cases e : j = c
    · subst e
      rw [upd_s, upd_o _ _ (by omega), upd_s, upd_s, if_pos (by omega), if_neg (by omega), dc]
      exact k
    · rw [upd_o _ _ e, upd_o _ _ (by omega), upd_o _ _ (by omega), upd_o _ _ (by omega), upd_o _ _ (by omega), if_pos (by omega), if_pos (by omega)]
      exact hs j (by omega)
abbrev PS (u n d p c D : Nat) (lam nu : Mem) : Prop := lam 0 8 = nI p ∧ nu 0 5 = nI p ∧ p ≤ n ∧ nu 0 6 = nI d ∧ lam 0 5 = nI c ∧ nu 0 7 = nI c ∧ c ≤ p ∧ D ≤ p ∧ CO u c D (lam 3) (nu 5)
/-- what the two see next -/
def SG (p n : Nat) (s t : Int32) : Prop := (s = -1 ∧ t = -1 ∧ n ≤ p) ∨ (p < n ∧ ∃ v, v < 256 ∧ t = nI v ∧ s = if v < 128 then nI v else nI v - 256)
theorem neg_byte : ∀ v, v < 256 → 128 ≤ v → (nI v - 256 : Int32) < 0 := by decide +kernel
theorem SG.eq {p n k : Nat} {s t : Int32} (h : SG p n s t) (hk : k < 128) : s = nI k ↔ t = nI k := by
  rcases h with ⟨rfl, rfl, -⟩ | ⟨-, v, hv, rfl, rfl⟩
  · exact Iff.rfl
  · by_cases h : v < 128
    · rw [if_pos h]
    · rw [if_neg h, nI_inj (by omega) (by omega)]
      constructor
      · intro e
        have := neg_byte v hv (by omega)
        rw [e] at this
        exact absurd this (nI_pos (by omega))
      · intro e; omega
theorem SG.lt {p n k : Nat} {s t : Int32} (h : SG p n s t) (hk : k < 128) (e : t = nI k) : p < n := by
  rcases h with ⟨-, rfl, -⟩ | ⟨h, -⟩
  · exact absurd e.symm (nI_ne (by omega))
  · exact h
theorem SG.no {p n k : Nat} {s t : Int32} (h : SG p n s t) (hk : k < 128) (e : ¬ s = nI k) : ¬ t = nI k := fun q => e ((h.eq hk).mpr q)
/-- a digit, or none -/
theorem SG.dig {p n : Nat} {s t : Int32} (h : SG p n s t) :
    ((s < 48 ∨ 57 < s) ∧ f_X12_in t (48 : Int32) (57 : Int32) = some 0) ∨ (p < n ∧ ∃ v, v < 10 ∧ s = nI (48 + v) ∧ t = nI (48 + v) ∧ ¬ s < 48 ∧ ¬ 57 < s ∧ f_X12_in t (48 : Int32) (57 : Int32) = some 1) := by
  rcases h with ⟨rfl, rfl, -⟩ | ⟨hp, v, hv, rfl, rfl⟩
  · exact Or.inl ⟨Or.inl (by decide), by decide⟩
  · rw [in_same]
    by_cases h : v < 128
    · rw [if_pos h]
      unfold f_X11_within
      have e1 : nI v < (48 : Int32) ↔ v < 48 := by rw [show (48 : Int32) = nI 48 from rfl, nI_ltI (by omega) (by omega)]
      have e2 : (57 : Int32) < nI v ↔ 57 < v := by rw [show (57 : Int32) = nI 57 from rfl, nI_ltI (by omega) (by omega)]
      by_cases a : nI v < (48 : Int32)
      · exact Or.inl ⟨Or.inl a, by rw [if_pos a]⟩
      · by_cases b : (57 : Int32) < nI v
        · exact Or.inl ⟨Or.inr b, by rw [if_neg a, if_pos b]⟩
        · have a' : ¬ v < 48 := fun h => a (e1.mpr h)
          have b' : ¬ 57 < v := fun h => b (e2.mpr h)
          refine Or.inr ⟨hp, v - 48, by omega, by congr 1; omega, by congr 1; omega, a, b, by rw [if_neg a, if_neg b]⟩
    · refine Or.inl ⟨Or.inl ?_, ?_⟩
      · rw [if_neg h]
        exact Int32.lt_of_lt_of_le (neg_byte v hv (by omega)) (by decide)
      · unfold f_X11_within
        have e2 : (57 : Int32) < nI v := by rw [show (57 : Int32) = nI 57 from rfl, nI_ltI (by omega) (by omega)]; omega
        have e1 : ¬ nI v < (48 : Int32) := by rw [show (48 : Int32) = nI 48 from rfl, nI_ltI (by omega) (by omega)]; omega
        rw [if_neg e1, if_pos e2]
theorem look_at {u n d p c D : Nat} {lam nu : Mem} (t : TP u n lam nu) (h : PS u n d p c D lam nu) :
    ∃ s v, f_X1_nextSign lam = some (lam, s) ∧ f_X12_look nu = some (nu, v) ∧ SG p n s v := by
  obtain ⟨-, hn, t7, t2, -, -, ht⟩ := t
  obtain ⟨h8, h5, hp, -⟩ := h
  unfold f_X1_nextSign f_X12_look
  rw [if_pos i2, c2, t7, h8, t2, h5]
  by_cases e : n ≤ p
  · have le : nI n ≤ nI p := (nI_leI (by omega) (by omega)).mpr e
    rw [if_pos le, if_pos le]
    exact ⟨_, _, rfl, rfl, Or.inl ⟨rfl, rfl, e⟩⟩
  · have le : ¬ nI n ≤ nI p := by rw [nI_leI (by omega) (by omega)]; exact e
    obtain ⟨v, v1, v2, v3⟩ := ht p (by omega)
    rw [if_neg le, if_neg le, if_pos (in_k (show p < 60 by omega) (by omega)), cl_I (by omega), show (303 : Int32) = nI 303 from rfl, nI_add,
      if_pos (in_k (show 303 + p < 387 by omega) (by omega)), cl_I (by omega), v2, v3]
    exact ⟨_, _, rfl, rfl, Or.inr ⟨by omega, v, v1, rfl, rfl⟩⟩
theorem sees_k {lam : Mem} {s : Int32} (h : f_X1_nextSign lam = some (lam, s)) (x : Int32) : f_X1_sees lam x = some (lam, if s = x then 1 else 0) := by
  unfold f_X1_sees
  rw [h]
  simp only [Option.bind_some]
  by_cases e : s = x
  · rw [if_pos e, if_pos e]
  · rw [if_neg e, if_neg e]
def AL (lam : Mem) : Mem := upA lam 0 (upd (lam 0) 8 ((lam 0 8) + (1 : Int32)))
def AN (nu : Mem) : Mem := upA nu 0 (upd (nu 0) 5 ((nu 0 5) + (1 : Int32)))
theorem take_k {lam : Mem} {s : Int32} (h : f_X1_nextSign lam = some (lam, s)) : f_X1_takeSign lam = some (AL lam, s) := by
  unfold f_X1_takeSign
  rw [h]
  rfl
theorem adv {u n d p c D : Nat} {lam nu : Mem} (h : PS u n d p c D lam nu) (hp : p < n) : PS u n d (p + 1) c D (AL lam) (AN nu) ∧ FP lam nu (AL lam) (AN nu) := by
  obtain ⟨h8, h5, h1, h6, c5, c7, cp, dp, co⟩ := h
  have al : ∀ i, i ≠ 8 → AL lam 0 i = lam 0 i := fun i hi => by unfold AL; rw [upA_s, upd_o _ _ hi]
  have an : ∀ i, i ≠ 5 → AN nu 0 i = nu 0 i := fun i hi => by unfold AN; rw [upA_s, upd_o _ _ hi]
  refine ⟨⟨?_, ?_, by omega, ?_, ?_, ?_, by omega, by omega, ?_⟩, ⟨Off.upA (by decide), fun i _ hi => al i hi, Off.upA (by decide), fun i hi _ _ => an i hi⟩⟩
  · unfold AL; rw [upA_s, upd_s, h8, nI_1]
  · unfold AN; rw [upA_s, upd_s, h5, nI_1]
  · rw [an 6 (by decide)]; exact h6
  · rw [al 5 (by decide)]; exact c5
  · rw [an 7 (by decide)]; exact c7
  · unfold AL AN; rw [upA_o _ _ (by decide), upA_o _ _ (by decide)]; exact co
/-- a step is written -/
theorem wrt {u n d p c D D' : Nat} {lam nu : Mem} {v a b : Int32} (hn : n ≤ 60) (h : PS u n d p c D lam nu) (hc : c < p) (k : StepOK u v a b D D') (hD : D' ≤ p) :
    ∃ l m, f_X1_write lam v = some l ∧ f_X12_step1 nu a b = some m ∧ PS u n d p (c + 1) D' l m ∧ FP lam nu l m := by
  obtain ⟨h8, h5, h1, h6, c5, c7, cp, dp, co⟩ := h
  unfold f_X1_write f_X12_step1
  have e2 : (2 : Int32) * nI c = nI (2 * c) := by rw [show (2 : Int32) = nI 2 from rfl, nI_mulI]
  rw [c5, c7, if_neg (by rw [show (60 : Int32) = nI 60 from rfl, nI_leI (by omega) (by omega)]; omega), if_pos (in_k (show c < 60 by omega) (by omega)), cl_I (show c < 2 ^ 31 by omega), e2,
    if_pos (in_k (show 2 * c < 124 by omega) (by omega)), cl_I (show 2 * c < 2 ^ 31 by omega)]
  simp only [bd]
  rw [upA_o _ _ (show (0 : Nat) ≠ 3 by decide), upA_o _ _ (show (0 : Nat) ≠ 5 by decide), c5, c7, e2, nI_1, nI_1, if_pos (in_k (show 2 * c + 1 < 124 by omega) (by omega)), cl_I (show 2 * c + 1 < 2 ^ 31 by omega), upA_s,
    upA_o _ _ (show (0 : Nat) ≠ 5 by decide), upA_o _ _ (show (0 : Nat) ≠ 5 by decide), c7, nI_1]
  refine ⟨_, _, rfl, rfl, ⟨?_, ?_, h1, ?_, ?_, ?_, by omega, hD, ?_⟩, ?_, ?_, ?_, ?_⟩
  · rw [upA_s, upd_o _ _ (by decide)]; exact h8
  · rw [upA_s, upd_o _ _ (by decide)]; exact h5
  · rw [upA_s, upd_o _ _ (by decide)]; exact h6
  · rw [upA_s, upd_s]
  · rw [upA_s, upd_s]
  · rw [upA_o _ _ (by decide), upA_s, upA_o _ _ (by decide), upA_s]
    exact co.step k
  · exact (Off.upA (by decide)).trans (Off.upA (by decide))
  · intro i hi _
    rw [upA_s, upd_o _ _ hi]
  · exact ((Off.upA (by decide)).trans (Off.upA (by decide))).trans (Off.upA (by decide))
  · intro i _ _ hi
    rw [upA_s, upd_o _ _ hi]
/-- the readers have stopped at one place -/
abbrev FL (n : Nat) (lam nu : Mem) : Prop := ∃ p c, p ≤ n ∧ c ≤ 60 ∧ lam 0 8 = nI p ∧ nu 0 5 = nI p ∧ lam 0 5 = nI c
theorem FL.wrt {n : Nat} {lam nu : Mem} (h : FL n lam nu) (v : Int32) : ∃ l, f_X1_write lam v = some l ∧ FL n l nu ∧ FP lam nu l nu := by
  obtain ⟨p, c, hp, hc, h8, h5, c5⟩ := h
  unfold f_X1_write
  rw [c5]
  by_cases e : 60 ≤ c
  · rw [if_pos (by rw [show (60 : Int32) = nI 60 from rfl, nI_leI (by omega) (by omega)]; exact e)]
    exact ⟨_, rfl, ⟨p, c, hp, hc, h8, h5, c5⟩, FP.refl _ _⟩
  · rw [if_neg (by rw [show (60 : Int32) = nI 60 from rfl, nI_leI (by omega) (by omega)]; exact e), if_pos (in_k (show c < 60 by omega) (by omega))]
    simp only [bd]
    rw [upA_o _ _ (show (0 : Nat) ≠ 3 by decide), c5, nI_1]
    refine ⟨_, rfl, ⟨p, c + 1, hp, by omega, ?_, h5, ?_⟩, ?_, ?_, Off.refl _ _, fun _ _ _ _ => rfl⟩
    · rw [upA_s, upd_o _ _ (by decide)]; exact h8
    · rw [upA_s, upd_s]
    · exact (Off.upA (by decide)).trans (Off.upA (by decide))
    · intro i hi _
      rw [upA_s, upd_o _ _ hi]
/-- how a reader ends: stopped, or behind p' with D' on the heap -/
def RLx (u n d p c D : Nat) (lam nu : Mem) (a b : Mem × Int32) : Prop := FP lam nu a.1 b.1 ∧ ((a.2 = 0 ∧ b.2 = 0 ∧ FL n a.1 b.1) ∨
  (a.2 = 1 ∧ b.2 = 1 ∧ ∃ p' c', p ≤ p' ∧ c' + p ≤ p' + c ∧ PS u n d p' c' D a.1 b.1))
theorem RLx.pre {u n d p c p1 c1 D : Nat} {lam nu l m : Mem} (f : FP lam nu l m) (hp : p ≤ p1) (hc : c1 + p ≤ p1 + c) {a b : Mem × Int32} (h : RLx u n d p1 c1 D l m a b) : RLx u n d p c D lam nu a b := by
  obtain ⟨g, h⟩ := h
  refine ⟨f.trans g, ?_⟩
  rcases h with h | ⟨x, y, p', c', h1, h2, h3⟩
  · exact Or.inl h
  · exact Or.inr ⟨x, y, p', c', by omega, by omega, h3⟩
def OKP (u n d : Nat) (F : Mem → Int32 → Option (Mem × Int32)) (G : Mem → Option (Mem × Int32)) : Prop :=
  ∀ lam nu p c D, TP u n lam nu → PS u n d p c D lam nu → Sim (fun a b => FP lam nu a.1 b.1 ∧ ((a.2 = 0 ∧ b.2 = 0 ∧ FL n a.1 b.1) ∨
    (a.2 = 1 ∧ b.2 = 1 ∧ ∃ p' c', p < p' ∧ c' + p ≤ p' + c ∧ PS u n d p' c' (D + 1) a.1 b.1))) (F lam (nI d)) (G nu)
theorem neg_dec2 : ∀ k, k < 128 → 0 < k → (-(nI k)) < (0 : Int32) := by decide +kernel
theorem neg_dec' {k : Nat} (h0 : 0 < k) (h : k < 128) : (-(nI k)) < (0 : Int32) := neg_dec2 k h h0
/-- an operator k, and what stands behind it -/
theorem op_ok {u n d p c D k : Nat} {lam nu : Mem} {F : Mem → Int32 → Option (Mem × Int32)} {G : Mem → Option (Mem × Int32)} (ok : OKP u n d F G) (t : TP u n lam nu) (h : PS u n d p c D lam nu) (hD : 1 ≤ D)
    (hp : p < n) (hk : 0 < k ∧ k < 128 ∧ k ≠ 33 ∧ k ≠ 100 ∧ k ≠ 109 ∧ k ≠ 112 ∧ k ≠ 115) {D1 : Nat} {K : Mem → Int32 → Option (Mem × Int32)} {K' : Mem → Option (Mem × Int32)}
    (k0 : ∀ w, K w 0 = some (w, 0)) (k1 : ∀ w w' p' c', p < p' → c' + p ≤ p' + c → PS u n d p' c' D w w' → FP lam nu w w' → Sim (RLx u n d p' c' D1 w w') (K w 1) (K' w')) :
    Sim (RLx u n d p c D1 lam nu) ((F (AL lam) (nI d)).bind fun q => (f_X1_write q.1 (-(nI k))).bind fun w => K w q.2)
      ((G (AN nu)).bind fun q => if q.2 = 0 then some (q.1, 0) else (f_X12_step1 q.1 (3 : Int32) (nI k)).bind fun w => K' w) := by
  obtain ⟨h', f'⟩ := adv h hp
  refine (ok _ _ _ _ _ (t.fp f') h').bind ?_
  rintro ⟨a, y⟩ ⟨b, z⟩ ⟨f, ⟨e1, e2, fl⟩ | ⟨e1, e2, p', c', q1, q2, q3⟩⟩
  · obtain rfl : y = 0 := e1
    obtain rfl : z = 0 := e2
    obtain ⟨l, w1, w2, w3⟩ := fl.wrt (-(nI k))
    rw [if_pos rfl]
    show Sim _ ((f_X1_write a (-(nI k))).bind _) _
    rw [w1, Option.bind_some, k0]
    exact Sim.pure ⟨(f'.trans f).trans w3, Or.inl ⟨rfl, rfl, w2⟩⟩
  · obtain rfl : y = 1 := e1
    obtain rfl : z = 1 := e2
    have st : StepOK u (-(nI k)) 3 (nI k) (D + 1) D := by
      have x : ∀ j, j < 2 ^ 31 → k ≠ j → nI k ≠ nI j := fun j hj e q => e ((nI_inj (by omega) hj).mp q)
      exact Or.inr (Or.inr (Or.inr ⟨neg_dec' hk.1 hk.2.1, rfl, x 33 (by omega) hk.2.2.1, x 100 (by omega) hk.2.2.2.1, x 109 (by omega) hk.2.2.2.2.1, x 112 (by omega) hk.2.2.2.2.2.1,
        x 115 (by omega) hk.2.2.2.2.2.2, rfl, by omega, rfl⟩))
    have q3' : PS u n d p' c' (D + 1) a b := q3
    obtain ⟨l, m, w1, w2, w3, w4⟩ := wrt t.2.1 q3' (by have := h.2.2.2.2.2.2.1; omega) st (by have := q3'.2.2.2.2.2.2.2.1; omega)
    rw [if_neg (show ¬ (1 : Int32) = 0 by decide)]
    show Sim _ ((f_X1_write a (-(nI k))).bind _) ((f_X12_step1 b (3 : Int32) (nI k)).bind _)
    rw [w1, w2, Option.bind_some, Option.bind_some]
    have F1 := (f'.trans f).trans w4
    refine (k1 l m p' (c' + 1) (by omega) (by omega) w3 F1).mono ?_
    intro x y r
    exact r.pre F1 (by omega) (by omega)
