/-- who stirs does so in minute q, and nobody else's OUT changes -/
def OutOK (q : Nat) (ρ a : Mem) : Prop := ∀ k, k < 9 → a 5 k = ρ 5 k ∨ (ρ 5 k = -1 ∧ a 5 k = nI q)
theorem nI_ne {q : Nat} (hq : q < 2 ^ 31) : ¬ nI q = -1 := by
  intro e
  have := nI_pos' (n := q) hq
  rw [e] at this
  exact absurd this (by decide)
theorem OutOK.refl (q : Nat) (ρ : Mem) : OutOK q ρ ρ := fun _ _ => Or.inl rfl
theorem OutOK.eq {q : Nat} {ρ a : Mem} (h : a 5 = ρ 5) : OutOK q ρ a := fun k _ => Or.inl (by rw [h])
theorem OutOK.trans {q : Nat} {ρ a b : Mem} (h : OutOK q ρ a) (k : OutOK q a b) : OutOK q ρ b := by
  intro i hi
  rcases k i hi with e | ⟨e1, e2⟩
  · rw [e]; exact h i hi
  · rcases h i hi with g | ⟨g1, g2⟩
    · exact Or.inr ⟨by rw [← g]; exact e1, e2⟩
    · exact Or.inr ⟨g1, e2⟩
theorem OutOK.cs {q : Nat} (hq : q < 2 ^ 31) {ρ a : Mem} (h : OutOK q ρ a) {k : Nat} (hk : k < 9) : cS a k ≤ cS ρ k := by
  unfold cS
  rcases h k hk with e | ⟨e1, e2⟩
  · rw [e]; omega
  · rw [e2, if_neg (nI_ne hq)]; omega
/-- no one fewer stands: no OUT has changed -/
theorem OutOK.same {q : Nat} (hq : q < 2 ^ 31) {ρ a : Mem} (h : OutOK q ρ a) (c : cnt a = cnt ρ) : ∀ k, k < 9 → a 5 k = ρ 5 k := by
  intro k hk
  rcases h k hk with e | ⟨e1, e2⟩
  · exact e
  · exfalso
    have h0 := h.cs hq (k := 0) (by omega)
    have h1 := h.cs hq (k := 1) (by omega)
    have h2 := h.cs hq (k := 2) (by omega)
    have h3 := h.cs hq (k := 3) (by omega)
    have h4 := h.cs hq (k := 4) (by omega)
    have h5 := h.cs hq (k := 5) (by omega)
    have h6 := h.cs hq (k := 6) (by omega)
    have h7 := h.cs hq (k := 7) (by omega)
    have h8 := h.cs hq (k := 8) (by omega)
    have d1 : cS ρ k = 1 := by unfold cS; rw [if_pos e1]
    have d2 : cS a k = 0 := by unfold cS; rw [e2, if_neg (nI_ne hq)]
    unfold cnt at c
    have : k = 0 ∨ k = 1 ∨ k = 2 ∨ k = 3 ∨ k = 4 ∨ k = 5 ∨ k = 6 ∨ k = 7 ∨ k = 8 := by omega
    rcases this with h | h | h | h | h | h | h | h | h <;> subst h <;> omega
theorem stir_ok2 {q : Nat} (hq : q < 2 ^ 30) {ρ ν : Mem} (h : RR q ρ ν) {k : Nat} (hk : k < 9) (hs : ρ 5 k = -1) :
    Sim (fun a b => RR q a b ∧ Fr ρ ν a b ∧ cnt a + 1 = cnt ρ ∧ OutOK q ρ a) (f_X4_stir ρ (nI k)) (f_X12_stirs ν (nI k)) := by
  unfold f_X4_stir f_X12_stirs
  rw [if_pos (in_k hk (by omega)), cl_I (show k < 2 ^ 31 by omega), if_pos (show inb (0 : Int32) 387 = true by decide), show (0 : Int32).toNatClampNeg = 0 by decide,
    h.mi, h.mj, show (4 : Int32) = nI 4 from rfl, lays_k ν 4 _ hk (by omega)]
  simp only [Option.bind_some, bd]
  have hv : nI q = -1 ∨ 0 ≤ nI q := Or.inr (nI_pos' (by omega))
  obtain ⟨r, f⟩ := h.out hk hv
  rw [show (0 : Int32) = nI 0 from rfl]
  refine (stir_L hk 9 0 _ _ fuel0 fuel0 (by omega) (fuel_ge 9 (by omega)) (fuel_ge 9 (by omega)) r).mono ?_
  rintro a b ⟨r2, f2, o2⟩
  have a5 : a 5 = upd (ρ 5) k (nI q) := by rw [o2 5 (by decide), upA_s]
  refine ⟨r2, f.trans f2, ?_, ?_⟩
  · rw [cnt_5 (o2 5 (by decide))]
    refine cnt_dec hk hs ?_ ?_
    · rw [upA_s, upd_s]; exact nI_ne (by omega)
    · intro i hi
      rw [upA_s, upd_o _ _ hi]
  · intro i hi
    rw [a5]
    by_cases e : i = k
    · rw [e, upd_s]; exact Or.inr ⟨hs, rfl⟩
    · rw [upd_o _ _ e]; exact Or.inl rfl
/-- settling, with how many fewer stand -/
def SE2 (q : Nat) (ρ ν : Mem) (c : Nat) (a b : Mem × Int32) : Prop := a.2 = b.2 ∧ RR q a.1 b.1 ∧ Fr ρ ν a.1 b.1 ∧ Set0 a.1 ∧ OutOK q ρ a.1 ∧ (∃ n, n ≤ 9 ∧ a.2 = nI n ∧ n + cnt a.1 = c)
theorem settle_L2 {q : Nat} (hq : q < 2 ^ 30) : ∀ (s c : Nat) (ρ ν : Mem) (f g : Nat), cnt ρ = s → c + s ≤ 9 → s < f → 20 * s + 20 ≤ g → RR q ρ ν →
    Sim (SE2 q ρ ν (c + s)) ((f_X4_leastAtZero ρ).bind fun q1 => f_X4_settle_L7 f q1.1 (nI c) q1.2) (f_X12_settle_L4 g ν (nI c) (0 : Int32)) := by
  intro s
  induction s with
  | zero =>
    intro c ρ ν f g hs hc hf hg h
    obtain ⟨f, rfl⟩ : ∃ f', f = f' + 1 := ⟨f - 1, by omega⟩
    have nost : ∀ k, k < 9 → ¬ ρ 5 k = -1 := by
      intro k hk e
      have : cS ρ k = 1 := by unfold cS; rw [if_pos e]
      unfold cnt at hs
      have hh : k = 0 ∨ k = 1 ∨ k = 2 ∨ k = 3 ∨ k = 4 ∨ k = 5 ∨ k = 6 ∨ k = 7 ∨ k = 8 := by omega
      rcases hh with h | h | h | h | h | h | h | h | h <;> subst h <;> omega
    rcases scan_L h 9 0 (by omega) (fun k hk => by omega) with ⟨k, hk, ⟨hst, -⟩, -, -⟩ | ⟨z, a, b⟩
    · exact absurd hst (nost k hk)
    · unfold f_X4_leastAtZero
      rw [show (0 : Int32) = nI 0 from rfl, a fuel0 (fuel_ge 9 (by omega))]
      obtain ⟨g, rfl⟩ : ∃ g', g = g' + 9 + 1 := ⟨g - 10, by omega⟩
      rw [b]
      simp only [Option.bind_some]
      unfold f_X4_settle_L7
      rw [if_pos (show (-1 : Int32) < 0 by decide)]
      exact Sim.pure ⟨rfl, h, Fr.refl _ _, z, OutOK.refl _ _, c, by omega, rfl, by show c + cnt ρ = c + 0; omega⟩
  | succ s ih =>
    intro c ρ ν f g hs hc hf hg h
    obtain ⟨f, rfl⟩ : ∃ f', f = f' + 1 := ⟨f - 1, by omega⟩
    rcases scan_L h 9 0 (by omega) (fun k hk => by omega) with ⟨k, hk, ⟨hst, -⟩, a, b⟩ | ⟨z, a, b⟩
    · unfold f_X4_leastAtZero
      rw [show (0 : Int32) = nI 0 from rfl, a fuel0 (fuel_ge 9 (by omega))]
      obtain ⟨g, rfl⟩ : ∃ g', g = g' + 9 := ⟨g - 9, by omega⟩
      obtain ⟨g', hg', hb⟩ := b g (nI c)
      rw [hb]
      simp only [Option.bind_some]
      rw [f_X4_settle_L7, if_neg (nI_pos (show k < 2 ^ 31 by omega)), if_neg (show ¬ (9 : Int32) ≤ nI c by rw [show (9 : Int32) = nI 9 from rfl, nI_leI (by omega) (by omega)]; omega)]
      refine (stir_ok2 hq h hk hst).bind ?_
      rintro a1 b1 ⟨r1, f1, c1, o1⟩
      rw [show nI c + (1 : Int32) = nI (c + 1) from nI_1 c]
      exact (ih (c + 1) a1 b1 f g' (by omega) (by omega) (by omega) (by omega) r1).mono fun x y ⟨e1, e2, e3, e4, e5, n, e6, e7, e8⟩ => ⟨e1, e2, f1.trans e3, e4, o1.trans e5, n, e6, e7, by omega⟩
    · unfold f_X4_leastAtZero
      rw [show (0 : Int32) = nI 0 from rfl, a fuel0 (fuel_ge 9 (by omega))]
      obtain ⟨g, rfl⟩ : ∃ g', g = g' + 9 + 1 := ⟨g - 10, by omega⟩
      rw [b]
      simp only [Option.bind_some]
      unfold f_X4_settle_L7
      rw [if_pos (show (-1 : Int32) < 0 by decide)]
      exact Sim.pure ⟨rfl, h, Fr.refl _ _, z, OutOK.refl _ _, c, by omega, rfl, by show c + cnt ρ = c + (s + 1); omega⟩
theorem settle_ok2 {q : Nat} (hq : q < 2 ^ 30) {ρ ν : Mem} (h : RR q ρ ν) : Sim (SE2 q ρ ν (cnt ρ)) (f_X4_settle ρ) (f_X12_settle ν) := by
  have := settle_L2 hq (cnt ρ) 0 ρ ν fuel0 fuel0 rfl (by have := cnt_le ρ; omega) (fuel_ge _ (by have := cnt_le ρ; omega)) (Nat.le_of_lt (fuel_ge _ (by have := cnt_le ρ; omega))) h
  rw [Nat.zero_add] at this
  exact this
theorem SE2.pre {q : Nat} {ρ ν a b : Mem} {c : Nat} (f : Fr ρ ν a b) (o : OutOK q ρ a) {x y : Mem × Int32} (h : SE2 q a b c x y) : SE2 q ρ ν c x y :=
  ⟨h.1, h.2.1, f.trans h.2.2.1, h.2.2.2.1, o.trans h.2.2.2.2.1, h.2.2.2.2.2⟩
theorem Sim.id3 {q : Nat} {ρ ν : Mem} {c : Nat} {x y : Option (Mem × Int32)} (h : Sim (SE2 q ρ ν c) x y) : Sim (SE2 q ρ ν c) (x.bind fun q => some (q.1, q.2)) (y.bind fun q => some (q.1, q.2)) :=
  h.bind fun _ _ k => Sim.pure k
theorem min_L2 {q : Nat} (hq : q < 2 ^ 30) : ∀ (r x : Nat) (ρ ν : Mem) (f g : Nat), x + r = 9 → r < f → r < g → RR q ρ ν →
    Sim (SE2 q ρ ν (cnt ρ)) (f_X4_passMinute_L12 f ρ (nI x)) (f_X12_minute_L12 g ν (nI x)) := by
  intro r
  induction r with
  | zero =>
    intro x ρ ν f g hx hf hg h
    obtain ⟨f, rfl⟩ : ∃ f', f = f' + 1 := ⟨f - 1, by omega⟩
    obtain ⟨g, rfl⟩ : ∃ g', g = g' + 1 := ⟨g - 1, by omega⟩
    unfold f_X4_passMinute_L12 f_X12_minute_L12
    have e : (9 : Int32) ≤ nI x := by rw [show (9 : Int32) = nI 9 from rfl, nI_leI (by omega) (by omega)]; omega
    rw [if_pos e, if_pos e]
    exact (settle_ok2 hq h).id3
  | succ r ih =>
    intro x ρ ν f g hx hf hg h
    obtain ⟨f, rfl⟩ : ∃ f', f = f' + 1 := ⟨f - 1, by omega⟩
    obtain ⟨g, rfl⟩ : ∃ g', g = g' + 1 := ⟨g - 1, by omega⟩
    have hx9 : x < 9 := by omega
    unfold f_X4_passMinute_L12 f_X12_minute_L12
    have e : ¬ (9 : Int32) ≤ nI x := by rw [show (9 : Int32) = nI 9 from rfl, nI_leI (by omega) (by omega)]; omega
    rw [if_neg e, if_neg e, st4 hx9 (h.ob x hx9), st12 hx9, ← h.ou x hx9]
    simp only [Option.bind_some]
    rw [show (if ρ 5 x = -1 then (1 : Int32) else 0) = stB ρ x from rfl]
    have nx : nI x + (1 : Int32) = nI (x + 1) := nI_1 x
    rw [nx]
    by_cases hs : stB ρ x = 0
    · rw [if_pos hs, if_pos hs]
      exact ih (x + 1) ρ ν f g (by omega) (by omega) (by omega) h
    · rw [if_neg hs, if_neg hs]
      refine (spends_ok h hx9).bind ?_
      rintro ⟨a, y⟩ ⟨b, z⟩ ⟨⟨j, hj, e1, e2⟩, o1, o2⟩
      have e1' : y = nI j := e1
      have e2' : z = nI j := e2
      rw [e1', e2']
      have r1 : RR q a b := h.scr o1 o2
      refine (less_ok r1 hx9 hj).bind ?_
      rintro a2 b2 ⟨r2, f2, o3⟩
      have e5 : a2 5 = ρ 5 := (o3 5 (by decide)).trans (o1 5 (by decide))
      rw [← cnt_5 e5]
      exact (ih (x + 1) a2 b2 f g (by omega) (by omega) (by omega) r2).mono fun u v k => SE2.pre ((Fr.scr o1 o2).trans f2) (OutOK.eq e5) k
theorem min_ok2 {q : Nat} (hq : q < 2 ^ 29) {ρ ν : Mem} (h : RR q ρ ν) : Sim (SE2 (q + 1) ρ ν (cnt ρ)) (f_X4_passMinute ρ) (f_X12_minute ν) := by
  have z : (0 : Int32).toNatClampNeg = 0 := by decide
  have i : inb (0 : Int32) 387 = true := by decide
  unfold f_X4_passMinute f_X12_minute
  rw [if_pos i, if_pos i, z]
  simp only [bd]
  obtain ⟨r, f⟩ := h.min
  have e5 : (upA ρ 0 (upd (ρ 0) 6 (ρ 0 6 + 1))) 5 = ρ 5 := upA_o _ _ (by decide)
  rw [show (0 : Int32) = nI 0 from rfl, ← cnt_5 e5]
  exact (min_L2 (by omega) 9 0 _ _ fuel0 fuel0 (by omega) (fuel_ge 9 (by omega)) (fuel_ge 9 (by omega)) r).mono fun u v k => SE2.pre f (OutOK.eq e5) k
theorem fly_ok2 {q : Nat} (hq : q < 2 ^ 30) {ρ ν : Mem} (h : RR q ρ ν) (z : Set0 ρ) {p : Nat} (hp : p < 9) : Sim (SE2 q ρ ν (cnt ρ)) (f_X4_flyAt ρ (nI p)) (f_X12_flyAt ν (nI p)) := by
  obtain ⟨k, hk, -, e1, e2⟩ := who_ok h hp
  unfold f_X4_flyAt f_X12_flyAt
  rw [e1, e2]
  simp only [Option.bind_some]
  rw [if_neg (nI_pos (show k < 2 ^ 31 by omega)), st4 hk (h.ob k hk), st12 hk, ← h.ou k hk]
  simp only [Option.bind_some]
  rw [show (if ρ 5 k = -1 then (1 : Int32) else 0) = stB ρ k from rfl]
  by_cases hs : stB ρ k = 0
  · rw [if_pos hs, if_pos hs, settle_no h z]
    exact Sim.pure ⟨rfl, h, Fr.refl _ _, z, OutOK.refl _ _, 0, by omega, rfl, by show 0 + cnt ρ = cnt ρ; omega⟩
  · rw [if_neg hs, if_neg hs]
    obtain ⟨j, hj, b1, b2⟩ := bite_ok h hk
    rw [b1, b2]
    simp only [Option.bind_some]
    refine (less_ok h hk hj).bind ?_
    rintro a b ⟨r1, f1, o3⟩
    have e5 : a 5 = ρ 5 := o3 5 (by decide)
    rw [← cnt_5 e5]
    exact ((settle_ok2 hq r1).mono fun u v k => SE2.pre f1 (OutOK.eq e5) k).id3
/-! who stands, as bits and as a number -/
def bsum (ρ : Mem) : Nat → Nat
  | 0 => 0
  | x + 1 => bsum ρ x + cS ρ x * 2 ^ x
def csum (ρ : Mem) : Nat → Nat
  | 0 => 0
  | x + 1 => csum ρ x + cS ρ x
theorem cS_le (ρ : Mem) (k : Nat) : cS ρ k ≤ 1 := by unfold cS; split <;> omega
theorem bsum_lt (ρ : Mem) : ∀ x, bsum ρ x < 2 ^ x := by
  intro x
  induction x with
  | zero => unfold bsum; omega
  | succ x ih =>
    unfold bsum
    rw [Nat.pow_succ]
    have := cS_le ρ x
    rcases (show cS ρ x = 0 ∨ cS ρ x = 1 by omega) with h | h <;> rw [h] <;> omega
theorem csum_9 (ρ : Mem) : csum ρ 9 = cnt ρ := by
  unfold cnt
  simp only [csum]
  omega
theorem csum_le (ρ : Mem) : ∀ x, csum ρ x ≤ x := by
  intro x
  induction x with
  | zero => unfold csum; omega
  | succ x ih =>
    unfold csum
    have := cS_le ρ x
    omega
theorem or_dec : ∀ x, x < 9 → ∀ s, s < 2 ^ x → nI s ||| ((1 : Int32) <<< (nI x &&& 31)) = nI (s + 2 ^ x) := by decide +kernel
theorem pc_dec : ∀ x, x < 9 → ∀ s, s < 2 ^ x → f_J6_bitCount_0f7a4 (nI (s + 2 ^ x)) = (f_J6_bitCount_0f7a4 (nI s)).map (· + 1) := by decide +kernel
theorem or_0 (x : Int32) : x ||| (0 : Int32) = x := by
  rw [← Int32.toBitVec_inj]; simp
theorem pc_ok (ρ : Mem) : ∀ x, x ≤ 9 → f_J6_bitCount_0f7a4 (nI (bsum ρ x)) = some (nI (csum ρ x)) := by
  intro x
  induction x with
  | zero =>
    intro _
    show f_J6_bitCount_0f7a4 (nI 0) = some (nI 0)
    decide +kernel
  | succ x ih =>
    intro hx
    unfold bsum csum
    have := cS_le ρ x
    rcases (show cS ρ x = 0 ∨ cS ρ x = 1 by omega) with h | h <;> rw [h]
    · rw [Nat.zero_mul, Nat.add_zero, Nat.add_zero]; exact ih (by omega)
    · rw [Nat.one_mul, pc_dec x (by omega) _ (bsum_lt ρ x), ih (by omega)]
      show some (nI (csum ρ x) + 1) = _
      rw [nI_1]
theorem stB_cS (ρ : Mem) (k : Nat) : stB ρ k = 0 ↔ cS ρ k = 0 := by
  unfold stB cS
  split
  · exact ⟨fun h => absurd h (by decide), fun h => absurd h (by decide)⟩
  · exact ⟨fun _ => rfl, fun _ => rfl⟩
theorem bits_L {q : Nat} {ρ ν : Mem} (h : RR q ρ ν) : ∀ (r x f : Nat), x + r = 9 → r < f →
    f_X4_bits_L4 f ρ (nI (bsum ρ x)) (nI x) = some (ρ, nI (bsum ρ 9)) ∧ f_X12_standSet_L4 f ν (nI (bsum ρ x)) (nI x) = some (ν, nI (bsum ρ 9)) ∧
    f_X12_howMany_L4 f ν (nI (csum ρ x)) (nI x) = some (ν, nI (csum ρ 9)) := by
  intro r
  induction r with
  | zero =>
    intro x f hx hf
    obtain ⟨f, rfl⟩ : ∃ f', f = f' + 1 := ⟨f - 1, by omega⟩
    obtain rfl : x = 9 := by omega
    unfold f_X4_bits_L4 f_X12_standSet_L4 f_X12_howMany_L4
    have e : (9 : Int32) ≤ nI 9 := by decide
    rw [if_pos e, if_pos e, if_pos e]
    exact ⟨rfl, rfl, rfl⟩
  | succ r ih =>
    intro x f hx hf
    obtain ⟨f, rfl⟩ : ∃ f', f = f' + 1 := ⟨f - 1, by omega⟩
    have hx9 : x < 9 := by omega
    have e : ¬ (9 : Int32) ≤ nI x := by rw [show (9 : Int32) = nI 9 from rfl, nI_leI (by omega) (by omega)]; omega
    have i := ih (x + 1) f (by omega) (by omega)
    unfold f_X4_bits_L4 f_X12_standSet_L4 f_X12_howMany_L4
    rw [if_neg e, if_neg e, if_neg e, st4 hx9 (h.ob x hx9), st12 hx9, ← h.ou x hx9]
    simp only [Option.bind_some, bd]
    rw [show (if ρ 5 x = -1 then (1 : Int32) else 0) = stB ρ x from rfl, show nI x + (1 : Int32) = nI (x + 1) from nI_1 x]
    have := cS_le ρ x
    rcases (show cS ρ x = 0 ∨ cS ρ x = 1 by omega) with hc | hc
    · have hs : stB ρ x = 0 := (stB_cS ρ x).mpr hc
      have b1 : bsum ρ (x + 1) = bsum ρ x := by show bsum ρ x + cS ρ x * 2 ^ x = _; rw [hc]; omega
      have b2 : csum ρ (x + 1) = csum ρ x := by show csum ρ x + cS ρ x = _; rw [hc]; omega
      rw [b1, b2] at i
      rw [if_pos hs, if_pos hs, if_pos hs, or_0, Int32.add_zero]
      exact i
    · have hs : ¬ stB ρ x = 0 := fun e => by have := (stB_cS ρ x).mp e; omega
      have b1 : bsum ρ (x + 1) = bsum ρ x + 2 ^ x := by show bsum ρ x + cS ρ x * 2 ^ x = _; rw [hc]; omega
      have b2 : csum ρ (x + 1) = csum ρ x + 1 := by show csum ρ x + cS ρ x = _; rw [hc]
      rw [b1, b2] at i
      rw [if_neg hs, if_neg hs, if_neg hs, or_dec x hx9 _ (bsum_lt ρ x), nI_1]
      exact i
theorem bits_ok {q : Nat} {ρ ν : Mem} (h : RR q ρ ν) : f_X4_bits ρ = some (ρ, nI (bsum ρ 9)) := (bits_L h 9 0 fuel0 (by omega) (fuel_ge 9 (by omega))).1
theorem set_ok {q : Nat} {ρ ν : Mem} (h : RR q ρ ν) : f_X12_standSet ν = some (ν, nI (bsum ρ 9)) := (bits_L h 9 0 fuel0 (by omega) (fuel_ge 9 (by omega))).2.1
theorem many_ok {q : Nat} {ρ ν : Mem} (h : RR q ρ ν) : f_X12_howMany ν = some (ν, nI (cnt ρ)) := by
  rw [← csum_9]
  exact (bits_L h 9 0 fuel0 (by omega) (fuel_ge 9 (by omega))).2.2
theorem many4_ok {q : Nat} {ρ ν : Mem} (h : RR q ρ ν) : f_X4_howMany ρ = some (ρ, nI (cnt ρ)) := by
  unfold f_X4_howMany
  rw [bits_ok h]
  simp only [Option.bind_some]
  rw [pc_ok ρ 9 (by omega), csum_9]
  rfl
