theorem bd_eq {α β : Type} (x : α) (k : α → β) : bd x k = k x := congrFun (congrFun (rfl : @bd α β = fun x k => k x) x) k
theorem pc9_le (x : Nat) : pc9 x ≤ 9 := by
  unfold pc9
  have l : ∀ y, y % 2 ≤ 1 := fun y => by omega
  have := l x
  have := l (x / 2)
  have := l (x / 4)
  have := l (x / 8)
  have := l (x / 16)
  have := l (x / 32)
  have := l (x / 64)
  have := l (x / 128)
  have := l (x / 256)
  exact Nat.add_le_add (Nat.add_le_add (Nat.add_le_add (Nat.add_le_add (Nat.add_le_add (Nat.add_le_add (Nat.add_le_add (Nat.add_le_add (l _) (l _)) (l _)) (l _)) (l _)) (l _)) (l _)) (l _)) (l _)
theorem bsum_0 (ρ : Mem) : bsum ρ 9 = 0 ↔ cnt ρ = 0 := by
  unfold cnt
  simp only [bsum]
  omega
theorem zero_k {n : Nat} (h : n < 2 ^ 31) : nI n = 0 ↔ n = 0 := by
  rw [show (0 : Int32) = nI 0 from rfl, nI_inj h (by omega)]
/-- who is poked one behind the other -/
theorem emp_L {q : Nat} (hq : q ≤ 9999) {μ b : Mem} {t : Nat} : ∀ (r x : Nat) (a c : Mem) (f : Nat), x + r = 9 → r < f → AH q μ b a c →
    ∃ a' c', AH q μ b a' c' ∧ f_X11_isEmptiedBy_L16 f a (nI t) (nI x) = some (a', if cnt (sub PH a') = 0 then 1 else 0) ∧
      ∀ K x1 x2 x3 g, r < g → f_X12_empties_L50 K g c x1 x2 x3 (nI t) (nI x) = f_X12_empties_L50 K 1 c' x1 x2 x3 (nI t) (nI 9) := by
  intro r
  induction r with
  | zero =>
    intro x a c f hx hf h
    obtain ⟨f, rfl⟩ : ∃ f', f = f' + 1 := ⟨f - 1, by omega⟩
    obtain rfl : x = 9 := by omega
    have r1 : RR q (sub PH a) c := h.1
    refine ⟨a, c, h, ?_, ?_⟩
    · rw [f_X11_isEmptiedBy_L16, if_pos (show (9 : Int32) ≤ nI 9 by decide)]
      show ((f_X4_bits (sub PH a)).bind _) = _
      rw [bits_ok r1]
      rw [Option.bind_some]
      simp only [bd]
      rw [put_self]
      have z := zero_k (n := bsum (sub PH a) 9) (by have := bsum_lt (sub PH a) 9; omega)
      by_cases e : cnt (sub PH a) = 0
      · rw [if_pos e, if_pos (z.mpr ((bsum_0 _).mpr e))]
      · rw [if_neg e, if_neg (fun k => e ((bsum_0 _).mp (z.mp k)))]
    · intro K x1 x2 x3 g hg
      obtain ⟨g, rfl⟩ : ∃ g', g = g' + 1 := ⟨g - 1, by omega⟩
      rw [f_X12_empties_L50, f_X12_empties_L50, if_pos (show (9 : Int32) ≤ nI 9 by decide), if_pos (show (9 : Int32) ≤ nI 9 by decide)]
  | succ r ih =>
    intro x a c f hx hf h
    obtain ⟨f, rfl⟩ : ∃ f', f = f' + 1 := ⟨f - 1, by omega⟩
    have hx9 : x < 9 := by omega
    have r1 : RR q (sub PH a) c := h.1
    have e : ¬ (9 : Int32) ≤ nI x := by rw [show (9 : Int32) = nI 9 from rfl, nI_leI (by omega) (by omega)]; omega
    have next : ∀ a1 c1, AH q μ b a1 c1 → f_X11_isEmptiedBy_L16 (f + 1) a (nI t) (nI x) = f_X11_isEmptiedBy_L16 f a1 (nI t) (nI (x + 1)) →
        (∀ K x1 x2 x3 g, f_X12_empties_L50 K (g + 1) c x1 x2 x3 (nI t) (nI x) = f_X12_empties_L50 K g c1 x1 x2 x3 (nI t) (nI (x + 1))) →
        ∃ a' c', AH q μ b a' c' ∧ f_X11_isEmptiedBy_L16 (f + 1) a (nI t) (nI x) = some (a', if cnt (sub PH a') = 0 then 1 else 0) ∧
          ∀ K x1 x2 x3 g, r + 1 < g → f_X12_empties_L50 K g c x1 x2 x3 (nI t) (nI x) = f_X12_empties_L50 K 1 c' x1 x2 x3 (nI t) (nI 9) := by
      intro a1 c1 k1 k2 k3
      obtain ⟨a', c', m1, m2, m3⟩ := ih (x + 1) a1 c1 f (by omega) (by omega) k1
      refine ⟨a', c', m1, k2.trans m2, ?_⟩
      intro K x1 x2 x3 g hg
      obtain ⟨g, rfl⟩ : ∃ g', g = g' + 1 := ⟨g - 1, by omega⟩
      rw [k3]
      exact m3 K x1 x2 x3 g (by omega)
    by_cases hb : ((nI t >>> (nI x &&& 31)) &&& (1 : Int32)) = 1
    · have s4 := st4 hx9 (r1.ob x hx9)
      have s12 := st12 (ν := c) hx9
      rw [← r1.ou x hx9] at s12
      by_cases hs : stB (sub PH a) x = 0
      · refine next a c h ?_ ?_
        · rw [f_X11_isEmptiedBy_L16, if_neg e, if_pos hb]
          show ((f_X4_stands (sub PH a) (nI x)).bind _) = _
          rw [s4, Option.bind_some]
          simp only [bd]
          rw [put_self, if_pos hs, nI_1]
        · intro K x1 x2 x3 g
          rw [f_X12_empties_L50, if_neg e, if_pos hb, s12, Option.bind_some]
          rw [if_pos (show (if sub PH a 5 x = -1 then (1 : Int32) else 0) = 0 from hs), nI_1]
      · obtain ⟨⟨a1, y⟩, ⟨c1, w⟩, p1, p2, -, r2, f2, z2, -⟩ := poke_ok (by omega) r1 hx9
        refine next (put PH a a1) c1 (h.go r2 f2 z2) ?_ ?_
        · rw [f_X11_isEmptiedBy_L16, if_neg e, if_pos hb]
          show ((f_X4_stands (sub PH a) (nI x)).bind _) = _
          rw [s4, Option.bind_some]
          simp only [bd]
          rw [put_self, if_neg hs, p1, Option.bind_some, nI_1]
        · intro K x1 x2 x3 g
          rw [f_X12_empties_L50, if_neg e, if_pos hb, s12, Option.bind_some]
          rw [if_neg (show ¬ (if sub PH a 5 x = -1 then (1 : Int32) else 0) = 0 from hs), p2, Option.bind_some, nI_1]
    · refine next a c h ?_ ?_
      · rw [f_X11_isEmptiedBy_L16, if_neg e, if_neg hb, nI_1]
      · intro K x1 x2 x3 g
        rw [f_X12_empties_L50, if_neg e, if_neg hb, nI_1]
/-- the reference's look at a set that was tried -/
theorem emp_T {q : Nat} {ρ c : Mem} (r : RR q ρ c) {t t3 : Nat} (ht : t < 512) (h3 : t3 < 512) (K : Mem → Int32 → Int32 → Int32 → Int32 → Option (Mem × Int32)) (x1 x2 : Int32) :
    f_X12_empties_L50 K 1 c x1 x2 (nI t3) (nI t) (nI 9) = if cnt ρ = 0 ∧ (pc9 t < pc9 t3 ∨ (pc9 t = pc9 t3 ∧ t < t3)) then K (LB c) x1 x2 (nI t) (nI (t + 1)) else K (LB c) x1 x2 (nI t3) (nI (t + 1)) := by
  have c9 := cnt_le ρ
  have p1 := pc9_le t
  have p3 := pc9_le t3
  have L139 : f_X12_empties_L139 K c x1 x2 (nI t) = K (LB c) x1 x2 (nI t) (nI (t + 1)) := by
    unfold f_X12_empties_L139
    rw [back_ok, Option.bind_some, nI_1]
  have L144 : f_X12_empties_L144 K c x1 x2 (nI t3) (nI t) = K (LB c) x1 x2 (nI t3) (nI (t + 1)) := by
    unfold f_X12_empties_L144
    rw [back_ok, Option.bind_some, nI_1]
  have L114 : f_X12_empties_L114 K c x1 x2 (nI t3) (nI t) = if cnt ρ = 0 ∧ (pc9 t = pc9 t3 ∧ t < t3) then K (LB c) x1 x2 (nI t) (nI (t + 1)) else K (LB c) x1 x2 (nI t3) (nI (t + 1)) := by
    unfold f_X12_empties_L114
    rw [many_ok r, Option.bind_some]
    by_cases z : cnt ρ = 0
    · rw [if_pos ((zero_k (by omega)).mpr z), bitsOf_k ht, bitsOf_k h3, Option.bind_some, Option.bind_some]
      by_cases e : pc9 t = pc9 t3
      · rw [if_pos (by rw [e])]
        by_cases l : t < t3
        · rw [if_neg (by rw [nI_leI (by omega) (by omega)]; omega), if_pos ⟨z, e, l⟩, L139]
        · rw [if_pos ((nI_leI (by omega) (by omega)).mpr (by omega)), if_neg (fun h => l h.2.2), L144]
      · rw [if_neg (by rw [nI_inj (by omega) (by omega)]; exact e), if_neg (fun h => e h.2.1), L144]
    · rw [if_neg (fun h => z ((zero_k (by omega)).mp h)), if_neg (fun h => z h.1), L144]
  rw [f_X12_empties_L50, if_pos (show (9 : Int32) ≤ nI 9 by decide), many_ok r, Option.bind_some]
  by_cases z : cnt ρ = 0
  · rw [if_pos ((zero_k (by omega)).mpr z), bitsOf_k ht, bitsOf_k h3, Option.bind_some, Option.bind_some]
    by_cases l : pc9 t < pc9 t3
    · rw [if_pos ((nI_ltI (by omega) (by omega)).mpr l), L139, if_pos ⟨z, Or.inl l⟩]
    · rw [if_neg (by rw [nI_ltI (by omega) (by omega)]; exact l), L114]
      by_cases e : pc9 t = pc9 t3 ∧ t < t3
      · rw [if_pos ⟨z, e⟩, if_pos ⟨z, Or.inr e⟩]
      · rw [if_neg (fun h => e h.2), if_neg (fun h => by
          rcases h.2 with h | h
          · exact l h
          · exact e h)]
  · rw [if_neg (fun h => z ((zero_k (by omega)).mp h)), L114, if_neg (fun h => z h.1), if_neg (fun h => z h.1)]
theorem emp_R {s t3 : Nat} (hs : s < 512) (h3 : t3 < 512) (x1 : Int32) : ∀ (r t : Nat) (b : Mem) (g : Nat), t + r = 512 → r < g → s < t →
    f_X12_empties_L30 g b x1 (nI s) (nI t3) (nI t) = some (b, if x1 = 0 then nI (pc9 t3) else nI t3) := by
  intro r
  induction r with
  | zero =>
    intro t b g ht hg hst
    obtain ⟨g, rfl⟩ : ∃ g', g = g' + 1 := ⟨g - 1, by omega⟩
    obtain rfl : t = 512 := by omega
    rw [f_X12_empties_L30, if_pos (show (511 : Int32) < nI 512 by decide), bitsOf_k h3, Option.bind_some]
    by_cases h : x1 = 0
    · rw [if_pos h, if_pos h]
    · rw [if_neg h, if_neg h]
  | succ r ih =>
    intro t b g ht hg hst
    obtain ⟨g, rfl⟩ : ∃ g', g = g' + 1 := ⟨g - 1, by omega⟩
    rw [f_X12_empties_L30, if_neg (by rw [show (511 : Int32) = nI 511 by decide, nI_ltI (by omega) (by omega)]; omega), if_neg (fun h => by
      have := inS_le (by omega) hs (inS_k h)
      omega), nI_1]
    exact ih (t + 1) b g (by omega) (by omega) (by omega)
theorem emp_B {μ a' : Mem} {t : Nat} {y : Int32} (h : f_X11_isEmptiedBy_L16 fuel0 (CA μ) (nI t) (nI 0) = some (a', y)) : f_X11_isEmptiedBy μ (nI t) = some (a', y) := by
  unfold f_X11_isEmptiedBy
  rw [copy4, Option.bind_some, bd_eq]
  exact h
theorem emp_C {K : Mem → Int32 → Int32 → Int32 → Int32 → Option (Mem × Int32)} {b c' : Mem} {x1 x2 x3 x4 : Int32} (h : f_X12_empties_L50 K fuel0 b x1 x2 x3 x4 (nI 0) = f_X12_empties_L50 K 1 c' x1 x2 x3 x4 (nI 9)) :
    f_X12_empties_L50 K fuel0 b x1 x2 x3 x4 (0 : Int32) = f_X12_empties_L50 K 1 c' x1 x2 x3 x4 (nI 9) := h
theorem emp_M (x1 : Int32) {s : Nat} (hs : s < 512) : ∀ (r t t3 : Nat) (μ b : Mem) (f g : Nat), t + r = s → r < f → r + 600 < g → Rel μ b → Held b b → s = bsum (sub PN μ) 9 → (t3 = s ∨ t3 < t) → inS t3 s →
    Sim RA (f_X11_empties_L31 f μ x1 (nI s) (nI t3) (nI t)) (f_X12_empties_L30 g b x1 (nI s) (nI t3) (nI t)) := by
  intro r
  induction r with
  | zero =>
    intro t t3 μ b f g ht hf hg R hb e h3 i3
    obtain ⟨f, rfl⟩ : ∃ f', f = f' + 1 := ⟨f - 1, by omega⟩
    obtain ⟨g, rfl⟩ : ∃ g', g = g' + 1 := ⟨g - 1, by omega⟩
    obtain rfl : t = s := by omega
    have l3 : t3 < 512 := by omega
    obtain ⟨⟨q, hq, r'⟩, z⟩ := id R.nr
    obtain ⟨a', c', m1, m2, m3⟩ := emp_L hq (t := t) 9 0 _ _ fuel0 (by omega) (fuel_ge 9 (by omega)) (AH.mk2 r' z hb)
    have nr : ¬ (cnt (sub PH a') = 0 ∧ (pc9 t < pc9 t3 ∨ (pc9 t = pc9 t3 ∧ t < t3))) := fun h => by
      have := inS_pc i3
      rcases h.2 with h | ⟨h, h'⟩
      · omega
      · have := inS_eq l3 hs i3 h.symm
        omega
    have ref : f_X12_empties_L30 (g + 1) b x1 (nI t) (nI t3) (nI t) = some (LB c', if x1 = 0 then nI (pc9 t3) else nI t3) := by
      rw [f_X12_empties_L30, if_neg (by rw [show (511 : Int32) = nI 511 by decide, nI_ltI (by omega) (by omega)]; omega), if_pos (inS_self t)]
      have := m3 (f_X12_empties_L30 g) x1 (nI t) (nI t3) fuel0 (fuel_ge 9 (by omega))
      rw [show f_X12_empties_L50 (f_X12_empties_L30 g) fuel0 b x1 (nI t) (nI t3) (nI t) (0 : Int32) = _ from emp_C this, emp_T m1.1 (by omega) l3, if_neg nr]
      exact emp_R hs l3 x1 (512 - (t + 1)) (t + 1) _ g (by omega) (by omega) (by omega)
    rw [ref, f_X11_empties_L31, if_pos (Int32.le_refl _), pcJ t3 l3, Option.bind_some]
    have RB : Rel μ (LB c') := R.fa ⟨Off.refl _ _, m1.2.2.1.back.2⟩
    by_cases h : x1 = 0
    · rw [if_pos h, if_pos h]
      exact Sim.pure ⟨rfl, RB⟩
    · rw [if_neg h, if_neg h]
      exact Sim.pure ⟨rfl, RB⟩
  | succ r ih =>
    intro t t3 μ b f g ht hf hg R hb e h3 i3
    obtain ⟨f, rfl⟩ : ∃ f', f = f' + 1 := ⟨f - 1, by omega⟩
    obtain ⟨g, rfl⟩ : ∃ g', g = g' + 1 := ⟨g - 1, by omega⟩
    have l3 : t3 < 512 := by omega
    have lt : t < 512 := by omega
    have p1 := pc9_le t
    have p3 := pc9_le t3
    obtain ⟨⟨q, hq, r'⟩, z⟩ := id R.nr
    obtain ⟨a', c', m1, m2, m3⟩ := emp_L hq (t := t) 9 0 _ _ fuel0 (by omega) (fuel_ge 9 (by omega)) (AH.mk2 r' z hb)
    have m2' : f_X11_isEmptiedBy μ (nI t) = some (a', if cnt (sub PH a') = 0 then 1 else 0) := by
      exact emp_B m2
    have RB : Rel μ (LB c') := R.fa ⟨Off.refl _ _, m1.2.2.1.back.2⟩
    have RA' : Rel a' (LB c') := R.fa m1.fa
    have ea : s = bsum (sub PN a') 9 := e.trans (bsum_eq (fun _ => sub5_FA m1.fa) 9).symm
    have ref : f_X12_empties_L30 (g + 1) b x1 (nI s) (nI t3) (nI t) = if (nI t &&& (nI s ^^^ (-1 : Int32))) = 0 then (if cnt (sub PH a') = 0 ∧ (pc9 t < pc9 t3 ∨ (pc9 t = pc9 t3 ∧ t < t3)) then f_X12_empties_L30 g (LB c') x1 (nI s) (nI t) (nI (t + 1)) else f_X12_empties_L30 g (LB c') x1 (nI s) (nI t3) (nI (t + 1)))
        else f_X12_empties_L30 g b x1 (nI s) (nI t3) (nI (t + 1)) := by
      rw [f_X12_empties_L30, if_neg (by rw [show (511 : Int32) = nI 511 by decide, nI_ltI (by omega) (by omega)]; omega), nI_1]
      by_cases h : (nI t &&& (nI s ^^^ (-1 : Int32))) = 0
      · rw [if_pos h, if_pos h]
        have := m3 (f_X12_empties_L30 g) x1 (nI s) (nI t3) fuel0 (fuel_ge 9 (by omega))
        rw [show f_X12_empties_L50 (f_X12_empties_L30 g) fuel0 b x1 (nI s) (nI t3) (nI t) (0 : Int32) = _ from emp_C this]
        exact emp_T m1.1 lt l3 _ _ _
      · rw [if_neg h, if_neg h]
    rw [ref, f_X11_empties_L31, if_neg (by rw [nI_leI (by omega) (by omega)]; omega), pcJ t lt, pcJ t3 l3, Option.bind_some, Option.bind_some]
    unfold f_X11_empties_L54
    by_cases hp : pc9 t3 ≤ pc9 t
    · rw [if_pos ((nI_leI (by omega) (by omega)).mpr hp), if_pos rfl, nI_1]
      by_cases h : (nI t &&& (nI s ^^^ (-1 : Int32))) = 0
      · rw [if_pos h, if_neg (fun k => by
          rcases k.2 with k | ⟨k, k'⟩
          · omega
          · have hst : t3 = s := by omega
            have := inS_eq lt hs (inS_k h) (by rw [k, hst])
            omega)]
        exact ih (t + 1) t3 μ (LB c') f g (by omega) (by omega) (by omega) RB m1.2.2.1.self e (by omega) i3
      · rw [if_neg h]
        exact ih (t + 1) t3 μ b f g (by omega) (by omega) (by omega) R hb e (by omega) i3
    · rw [if_neg (by rw [nI_leI (by omega) (by omega)]; exact hp), if_neg n10, nI_1]
      by_cases h : (nI t &&& (nI s ^^^ (-1 : Int32))) = 0
      · rw [if_pos h, if_pos h]
        by_cases hc : cnt (sub PH a') = 0
        · rw [if_pos hc] at m2'
          rw [m2', Option.bind_some, if_neg (show ¬ (a', (1 : Int32)).2 = 0 from n10), if_pos ⟨hc, Or.inl (by omega)⟩]
          exact ih (t + 1) t a' (LB c') f g (by omega) (by omega) (by omega) RA' m1.2.2.1.self ea (by omega) (inS_k h)
        · rw [if_neg hc] at m2'
          rw [m2', Option.bind_some, if_pos (show (a', (0 : Int32)).2 = 0 from rfl), if_neg (fun k => hc k.1)]
          exact ih (t + 1) t3 a' (LB c') f g (by omega) (by omega) (by omega) RA' m1.2.2.1.self ea (by omega) i3
      · rw [if_neg h, if_neg h]
        exact ih (t + 1) t3 μ b f g (by omega) (by omega) (by omega) R hb e (by omega) i3
theorem emp_op {μ ν : Mem} (h : Rel μ ν) (x : Int32) : Sim RA (f_X11_empties μ x) (f_X12_empties ν x) := by
  unfold f_X11_empties f_X12_empties
  rw [in_same]
  rcases in_lh x (l := 0) (n := 1) (by omega) (by omega) with e | ⟨e, u, -, u2, rfl⟩
  · rw [show f_X11_within x (0 : Int32) (1 : Int32) = _ from e]
    exact h.err (c := 1) (by omega)
  · rw [show f_X11_within (nI u) (0 : Int32) (1 : Int32) = _ from e]
    obtain ⟨⟨q, hq, r⟩, z⟩ := id h.nr
    simp only [Option.bind_some, bd]
    rw [if_neg n1, if_neg n1]
    refine w_1 r (fun m y => f_X11_empties_L31 fuel0 m (nI u) y y 0) _ ?_
    refine w_2 r (fun m y => (f_X12_layDown m (0 : Int32)).bind fun q3 => f_X12_empties_L30 fuel0 q3 (nI u) y y 0) _ ?_
    refine w_3 (fun m => f_X12_empties_L30 fuel0 m (nI u) (nI (bsum (sub PN μ) 9)) (nI (bsum (sub PN μ) 9)) 0) _ ?_
    have hs : bsum (sub PN μ) 9 < 512 := bsum_lt _ 9
    exact emp_M (nI u) hs (bsum (sub PN μ) 9) 0 _ μ (LD ν) fuel0 fuel0 (by omega) (fuel_ge _ (by omega)) (by have := fuel_big; unfold fuel0; omega) h.down (Held.down2 ν) rfl (Or.inl rfl)
      ⟨Nat.le_refl _, Nat.le_refl _, Nat.le_refl _, Nat.le_refl _, Nat.le_refl _, Nat.le_refl _, Nat.le_refl _, Nat.le_refl _, Nat.le_refl _⟩
