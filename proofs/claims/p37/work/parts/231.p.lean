theorem in_lh (x : Int32) {l n : Nat} (hl : l ≤ n) (hn : n < 2 ^ 31) : (f_X11_within x (nI l) (nI n) = some 0) ∨ (f_X11_within x (nI l) (nI n) = some 1 ∧ ∃ k, l ≤ k ∧ k ≤ n ∧ x = nI k) := by
  unfold f_X11_within
  by_cases h0 : x < nI l
  · rw [if_pos h0]; exact Or.inl rfl
  · rw [if_neg h0]
    have h00 : ¬ x < 0 := fun h => h0 (Int32.lt_of_lt_of_le h (nI_pos' (by omega)))
    obtain ⟨k, hk, rfl⟩ := nI_of h00
    by_cases h1 : nI n < nI k
    · rw [if_pos h1]; exact Or.inl rfl
    · rw [if_neg h1]
      rw [nI_ltI hn hk] at h1
      rw [nI_ltI hk (by omega)] at h0
      exact Or.inr ⟨rfl, k, by omega, by omega, rfl⟩
theorem Rel.err {μ ν : Mem} (h : Rel μ ν) {c : Nat} (hc : c < 7) : Sim RA ((f_X11_fails μ (nI c)).bind fun q => some (q.1, q.2)) ((f_X12_error ν (nI c)).bind fun q => some (q.1, q.2)) :=
  h.sim (errs_ok h.nr hc)
theorem look_ok' {q n : Nat} {μ ν : Mem} (hq : q ≤ 9999) (r : RR q (sub PN μ) ν) (z : Set0 (sub PN μ)) (hn : n ≤ 200) :
    Sim (fun a b => AH (q + n) μ ν a b.1) (f_X11_lookAhead μ (nI n)) (f_X12_go (LD ν) (nI n)) := by
  have := look_ok hq r z hn
  rw [down_ok] at this
  exact this
theorem is_k {q : Nat} {ρ ν : Mem} (h : RR q ρ ν) {k w : Nat} (hk : k < 9) (h2 : 2 ≤ w) (h4 : w ≤ 4) :
    ∃ v, f_X4_is ρ (nI k) (nI w) = some (ρ, v) ∧ f_X12_its ν (nI k) (nI w) = some (ν, v) := by
  refine ⟨ν 1 (8 + 5 * k + w), ?_, its_k ν w hk (by omega)⟩
  unfold f_X4_is
  rw [if_pos (in_k hk (by omega)), if_pos (in_k hk (by omega)), if_pos (in_k hk (by omega)), cl_I (by omega)]
  have : w = 2 ∨ w = 3 ∨ w = 4 := by omega
  rcases this with e | e | e <;> subst e
  · rw [if_pos (by decide), h.po k hk]
  · rw [if_neg (by decide), if_pos (by decide), h.le k hk]
  · rw [if_neg (by decide), if_neg (by decide), h.ou k hk]
theorem n1 : ¬ (1 : Int32) = 0 := by decide
theorem then_op {μ ν : Mem} (h : Rel μ ν) (x y w : Int32) : Sim RA (f_X11_then μ x y w) (f_X12_then ν x y w) := by
  unfold f_X11_then f_X12_then
  rw [in_same, in_same]
  rcases in_lh x (l := 0) (n := 200) (by omega) (by omega) with e | ⟨e, n, -, hn, rfl⟩
  · rw [show (0 : Int32) = nI 0 from rfl, show (200 : Int32) = nI 200 from rfl, e]
    exact h.err (c := 1) (by omega)
  · rw [show f_X11_within (nI n) (0 : Int32) (200 : Int32) = _ from e]
    simp only [Option.bind_some]
    rw [if_neg n1, if_neg n1]
    rcases one_cases y with ⟨e1, -, e3⟩ | ⟨e1, -, e3, k, hk, rfl⟩
    · rw [e1, e3]; exact h.err (c := 1) (by omega)
    · rw [e1, e3]
      simp only [Option.bind_some]
      rw [if_neg n1, if_neg n1]
      rcases in_lh w (l := 2) (n := 4) (by omega) (by omega) with e | ⟨e, c, c2, c4, rfl⟩
      · rw [show f_X11_within w (2 : Int32) (4 : Int32) = _ from e]
        exact h.err (c := 1) (by omega)
      · rw [show f_X11_within (nI c) (2 : Int32) (4 : Int32) = _ from e, down_ok]
        simp only [Option.bind_some]
        rw [if_neg n1, if_neg n1]
        obtain ⟨⟨q, hq, r⟩, z⟩ := id h.nr
        refine (look_ok' hq r z hn).bind ?_
        intro a b k
        obtain ⟨v, v1, v2⟩ := is_k k.1 hk c2 c4
        rw [v1, v2]
        simp only [Option.bind_some, bd]
        rw [back_ok, put_self]
        exact Sim.pure ⟨rfl, h.fa k.fa⟩
theorem standing_op {μ ν : Mem} (h : Rel μ ν) (x : Int32) : Sim RA (f_X11_standing μ x) (f_X12_standing ν x) := by
  unfold f_X11_standing f_X12_standing
  rw [in_same]
  rcases in_lh x (l := 0) (n := 200) (by omega) (by omega) with e | ⟨e, n, -, hn, rfl⟩
  · rw [show (0 : Int32) = nI 0 from rfl, show (200 : Int32) = nI 200 from rfl, e]
    exact h.err (c := 1) (by omega)
  · rw [show f_X11_within (nI n) (0 : Int32) (200 : Int32) = _ from e, down_ok]
    simp only [Option.bind_some]
    rw [if_neg n1, if_neg n1]
    obtain ⟨⟨q, hq, r⟩, z⟩ := id h.nr
    refine (look_ok' hq r z hn).bind ?_
    intro a b k
    rw [many4_ok k.1, many_ok k.1]
    simp only [Option.bind_some, bd]
    rw [back_ok, put_self]
    exact Sim.pure ⟨rfl, h.fa k.fa⟩
/-! who lasts how long -/
theorem L44_pos {K : Mem → Int32 → Option Mem} {n s : Nat} (hs : 0 < s) (hs2 : s ≤ 9) : ∀ (r x : Nat) (b : Mem) (f : Nat), x + r = 9 → r < f →
    f_X12_lastAll_L44 K f b (nI n) (nI s) (nI x) = K (upA b 8 (fun k => if x ≤ k ∧ k < 9 ∧ b 8 k = 201 ∧ ¬ b 1 (8 + 5 * k + 4) = -1 then nI n else b 8 k)) (nI (n + 1)) := by
  intro r
  induction r with
  | zero =>
    intro x b f hx hf
    obtain ⟨f, rfl⟩ : ∃ f', f = f' + 1 := ⟨f - 1, by omega⟩
    unfold f_X12_lastAll_L44
    have e : (9 : Int32) ≤ nI x := by rw [show (9 : Int32) = nI 9 from rfl, nI_leI (by omega) (by omega)]; omega
    rw [if_pos e, nI_1]
    have : upA b 8 (fun k => if x ≤ k ∧ k < 9 ∧ b 8 k = 201 ∧ ¬ b 1 (8 + 5 * k + 4) = -1 then nI n else b 8 k) = b := by
      funext a
      by_cases h : a = 8
      · subst h; rw [upA_s]; funext k; rw [if_neg (by omega)]
      · rw [upA_o _ _ h]
    rw [this]
  | succ r ih =>
    intro x b f hx hf
    obtain ⟨f, rfl⟩ : ∃ f', f = f' + 1 := ⟨f - 1, by omega⟩
    have hx9 : x < 9 := by omega
    have e : ¬ (9 : Int32) ≤ nI x := by rw [show (9 : Int32) = nI 9 from rfl, nI_leI (by omega) (by omega)]; omega
    have e0 : ¬ nI s ≤ 0 := by rw [show (0 : Int32) = nI 0 from rfl, nI_leI (by omega) (by omega)]; omega
    have i1 : inb (nI x) 9 = true := in_k hx9 (by omega)
    have i2 : (nI x).toNatClampNeg = x := cl_I (by omega)
    have fin : ∀ v, (v = if b 8 x = 201 ∧ ¬ b 1 (8 + 5 * x + 4) = -1 then nI n else b 8 x) →
        f_X12_lastAll_L44 K f (upA b 8 (upd (b 8) x v)) (nI n) (nI s) (nI (x + 1)) =
        K (upA b 8 (fun k => if x ≤ k ∧ k < 9 ∧ b 8 k = 201 ∧ ¬ b 1 (8 + 5 * k + 4) = -1 then nI n else b 8 k)) (nI (n + 1)) := by
      intro v hv
      rw [ih (x + 1) _ f (by omega) (by omega), upA_2, upA_s, upA_o _ _ (show (1 : Nat) ≠ 8 by decide)]
      refine congrArg (fun m => K m (nI (n + 1))) (congrArg (upA b 8) (funext fun k => ?_))
      by_cases hk : k = x
      · subst hk
        rw [upd_s, if_neg (by omega), hv]
        by_cases hc : b 8 k = 201 ∧ ¬ b 1 (8 + 5 * k + 4) = -1
        · rw [if_pos hc, if_pos ⟨by omega, by omega, hc⟩]
        · rw [if_neg hc, if_neg (fun h => hc h.2.2)]
      · rw [upd_o _ _ hk]
        by_cases hc : x ≤ k ∧ k < 9 ∧ b 8 k = 201 ∧ ¬ b 1 (8 + 5 * k + 4) = -1
        · rw [if_pos hc, if_pos ⟨by omega, hc.2⟩]
        · rw [if_neg hc, if_neg (fun h => hc ⟨by omega, h.2⟩)]
    unfold f_X12_lastAll_L44
    rw [if_neg e, if_neg e0, st12 hx9]
    simp only [Option.bind_some, bd]
    rw [show nI x + (1 : Int32) = nI (x + 1) from nI_1 x]
    simp only [i1, i2, if_true]
    by_cases hst : b 1 (8 + 5 * x + 4) = -1
    · rw [if_pos hst, if_neg n1]
      exact fin _ (by rw [if_neg (fun h => h.2 hst)])
    · rw [if_neg hst, if_pos rfl]
      by_cases h2 : b 8 x = 201
      · rw [if_pos h2]; exact fin _ (by rw [if_pos ⟨h2, hst⟩])
      · rw [if_neg h2]; exact fin _ (by rw [if_neg (fun h => h2 h.1)])
theorem L44_zero {K : Mem → Int32 → Option Mem} {n : Nat} (b : Mem) {f : Nat} (hf : 0 < f) :
    f_X12_lastAll_L44 K f b (nI n) (nI 0) (nI 0) = K b (nI (n + 1)) := by
  obtain ⟨f, rfl⟩ : ∃ f', f = f' + 1 := ⟨f - 1, by omega⟩
  unfold f_X12_lastAll_L44
  rw [if_neg (by decide), if_pos (by decide), nI_1]
abbrev UU (q m : Nat) (ρ0 α b : Mem) : Prop :=
  ∀ k, k < 9 → ρ0 5 k = -1 → (α 5 k = -1 ∧ b 8 k = 201) ∨ ∃ t, 1 ≤ t ∧ t ≤ m ∧ α 5 k = nI (q + t) ∧ b 8 k = nI t
theorem Held.until {ν b : Mem} (h : Held ν b) (g : Nat → Int32) : Held ν (upA b 8 g) := by
  refine ⟨h.1.trans (Off.upA (by decide)), fun i hi => ?_, fun i hi => ?_⟩
  · rw [upA_o _ _ (by decide)]; exact h.2.1 i hi
  · rw [upA_o _ _ (by decide)]; exact h.2.2 i hi
theorem RR.b8 {q : Nat} {ρ b : Mem} (h : RR q ρ b) (g : Nat → Int32) : RR q ρ (upA b 8 g) :=
  h.like rfl rfl (fun _ _ _ _ _ => rfl) rfl rfl rfl rfl (upA_o _ _ (by decide))
theorem L30_step {g m : Nat} {b b1 : Mem} {s : Int32} (e : f_X12_minute b = some (b1, s)) (hm : m < 200) :
    f_X12_lastAll_L30 (g + 1) b (nI (m + 1)) = f_X12_lastAll_L44 (f_X12_lastAll_L30 g) fuel0 b1 (nI (m + 1)) s (nI 0) := by
  have h : ¬ (200 : Int32) < nI (m + 1) := by rw [show (200 : Int32) = nI 200 from rfl, nI_ltI (by omega) (by omega)]; omega
  rw [f_X12_lastAll_L30, if_neg h, e, Option.bind_some, show (0 : Int32) = nI 0 from rfl]
theorem run_L {q : Nat} (hq : q ≤ 9999) {ρ0 ν : Mem} : ∀ (r m : Nat) (α b : Mem) (f g : Nat) (s : Int32), m + r = 200 → r < f → r < g → RR (q + m) α b → Held ν b → UU q m ρ0 α b →
    ∃ α' b', RR (q + 200) α' b' ∧ Held ν b' ∧ UU q 200 ρ0 α' b' ∧ Off [0, 4, 5, 7, 11] α α' ∧
      f_X12_lastAll_L30 g b (nI (m + 1)) = some (LB b') ∧ (∃ s', f_X4_pass_L4 f α (nI 200) s (nI m) = some (α', s')) ∧
      (∀ k, k < 9 → ρ0 5 k = -1 → ¬ α 5 k = -1 → b' 8 k = b 8 k) ∧
      (∀ i, i < 9 → ρ0 5 i = -1 → α 5 i = -1 → ∃ A, f_X4_lastsFor_L2 f α (nI i) (nI (m + 1)) = some (A, b' 8 i) ∧ Off [0, 4, 5, 7, 11] α A) := by
  intro r
  induction r with
  | zero =>
    intro m α b f g s hm hf hg h hd u
    obtain ⟨f, rfl⟩ : ∃ f', f = f' + 1 := ⟨f - 1, by omega⟩
    obtain ⟨g, rfl⟩ : ∃ g', g = g' + 1 := ⟨g - 1, by omega⟩
    obtain rfl : m = 200 := by omega
    refine ⟨α, b, h, hd, u, Off.refl _ _, ?_, ⟨s, ?_⟩, fun _ _ _ _ => rfl, fun i hi h0 h1 => ⟨α, ?_, Off.refl _ _⟩⟩
    · unfold f_X12_lastAll_L30
      rw [if_pos (by decide), back_ok, Option.bind_some]
    · unfold f_X4_pass_L4
      rw [if_pos (by decide)]
    · unfold f_X4_lastsFor_L2
      rw [if_pos (by decide)]
      rcases u i hi h0 with ⟨-, e⟩ | ⟨t, t1, t2, e, -⟩
      · rw [e]
      · rw [h1] at e
        exact absurd e.symm (nI_ne (by omega))
  | succ r ih =>
    intro m α b f g s hm hf hg h hd u
    obtain ⟨f, rfl⟩ : ∃ f', f = f' + 1 := ⟨f - 1, by omega⟩
    obtain ⟨g, rfl⟩ : ∃ g', g = g' + 1 := ⟨g - 1, by omega⟩
    obtain ⟨⟨α1, y⟩, ⟨b1, w⟩, e1, e2, yw, r1, f1, -, o1, n, n9, yn, cn⟩ := min_ok2 (q := q + m) (by omega) h
    obtain rfl : y = w := yw
    obtain rfl : y = nI n := yn
    have r1' : RR (q + m + 1) α1 b1 := r1
    have f1' : Fr α b α1 b1 := f1
    have o1' : OutOK (q + m + 1) α α1 := o1
    have cn' : n + cnt α1 = cnt α := cn
    have b18 : b1 8 = b 8 := f1'.c 8 (by decide)
    have Q : ∃ b2, f_X12_lastAll_L44 (f_X12_lastAll_L30 g) fuel0 b1 (nI (m + 1)) (nI n) (nI 0) = f_X12_lastAll_L30 g b2 (nI (m + 1 + 1)) ∧
        RR (q + m + 1) α1 b2 ∧ Held ν b2 ∧ ∀ k, k < 9 → ρ0 5 k = -1 → (α1 5 k = -1 ∧ b2 8 k = b 8 k) ∨ (¬ α 5 k = -1 ∧ α1 5 k = α 5 k ∧ b2 8 k = b 8 k) ∨ (α 5 k = -1 ∧ α1 5 k = nI (q + m + 1) ∧ b2 8 k = nI (m + 1)) := by
      rcases Nat.eq_zero_or_pos n with hn | hn
      · subst hn
        refine ⟨b1, L44_zero _ (fuel_ge 0 (by omega)), r1', hd.go f1', fun k hk h0 => ?_⟩
        have e5 := o1'.same (by omega) (by omega) k hk
        rw [e5, b18]
        by_cases hh : α 5 k = -1
        · exact Or.inl ⟨hh, rfl⟩
        · exact Or.inr (Or.inl ⟨hh, rfl, rfl⟩)
      · refine ⟨_, L44_pos hn n9 9 0 b1 fuel0 (by omega) (fuel_ge 9 (by omega)), r1'.b8 _, (hd.go f1').until _, fun k hk h0 => ?_⟩
        rw [upA_s, b18, ← r1'.ou k hk]
        rcases o1' k hk with e5 | ⟨e5, e6⟩
        · rw [e5]
          by_cases hh : α 5 k = -1
          · exact Or.inl ⟨hh, by rw [if_neg (fun q => q.2.2.2 hh)]⟩
          · refine Or.inr (Or.inl ⟨hh, rfl, ?_⟩)
            rcases u k hk h0 with ⟨e, -⟩ | ⟨t, t1, t2, -, e⟩
            · exact absurd e hh
            · rw [if_neg]
              intro q
              have := q.2.2.1
              rw [e, show (201 : Int32) = nI 201 from rfl, nI_inj (by omega) (by omega)] at this
              omega
        · refine Or.inr (Or.inr ⟨e5, e6, ?_⟩)
          rw [e6]
          rcases u k hk h0 with ⟨-, e⟩ | ⟨t, t1, t2, e, -⟩
          · rw [if_pos ⟨by omega, hk, e, nI_ne (by omega)⟩]
          · rw [e5] at e
            exact absurd e.symm (nI_ne (by omega))
    obtain ⟨b2, q1, q2, q3, q4⟩ := Q
    have u2 : UU q (m + 1) ρ0 α1 b2 := by
      intro k hk h0
      rcases q4 k hk h0 with ⟨c1, c2⟩ | ⟨c1, c2, c3⟩ | ⟨c1, c2, c3⟩
      · rcases u k hk h0 with ⟨-, e⟩ | ⟨t, t1, t2, e, -⟩
        · exact Or.inl ⟨c1, by rw [c2]; exact e⟩
        · exfalso
          rcases o1' k hk with e5 | ⟨e5, e6⟩
          · rw [c1, e] at e5
            exact nI_ne (by omega) e5.symm
          · rw [c1] at e6
            exact nI_ne (by omega) e6.symm
      · rcases u k hk h0 with ⟨e, -⟩ | ⟨t, t1, t2, e, e'⟩
        · exact absurd e c1
        · exact Or.inr ⟨t, t1, by omega, by rw [c2]; exact e, by rw [c3]; exact e'⟩
      · exact Or.inr ⟨m + 1, by omega, by omega, by rw [c2, Nat.add_assoc], c3⟩
    obtain ⟨α', b', a1, a2, a3, a4, a5, ⟨s', a6⟩, a7, a8⟩ := ih (m + 1) α1 b2 f g (s + nI n) (by omega) (by omega) (by omega) q2 q3 u2
    refine ⟨α', b', a1, a2, a3, f1'.a.trans a4, ?_, ⟨s', ?_⟩, ?_, ?_⟩
    · exact ((L30_step e2 (by omega)).trans q1).trans a5
    · unfold f_X4_pass_L4
      rw [if_neg (by rw [nI_leI (by omega) (by omega)]; omega), e1]
      simp only [Option.bind_some, bd]
      rw [nI_1]
      exact a6
    · intro k hk h0 hne
      rcases q4 k hk h0 with ⟨c1, c2⟩ | ⟨c1, c2, c3⟩ | ⟨c1, c2, c3⟩
      · exfalso
        rcases o1' k hk with e5 | ⟨e5, e6⟩
        · rw [c1] at e5; exact hne e5.symm
        · exact hne e5
      · rw [a7 k hk h0 (by rw [c2]; exact c1), c3]
      · exact absurd c1 hne
    · intro i hi h0 h1
      have st : f_X4_stands α1 (nI i) = some (α1, stB α1 i) := st4 hi (r1'.ob i hi)
      have E : f_X4_lastsFor_L2 (f + 1) α (nI i) (nI (m + 1)) = if stB α1 i = 0 then some (α1, nI (m + 1)) else f_X4_lastsFor_L2 f α1 (nI i) (nI (m + 1 + 1)) := by
        rw [f_X4_lastsFor_L2, if_neg (by rw [show (200 : Int32) = nI 200 from rfl, nI_ltI (by omega) (by omega)]; omega), e1]
        simp only [Option.bind_some]
        rw [st]
        simp only [Option.bind_some]
        rw [nI_1]
      rw [E]
      by_cases hs : stB α1 i = 0
      · rw [if_pos hs]
        have hne : ¬ α1 5 i = -1 := (stB_0 α1 i).mp hs
        rcases q4 i hi h0 with ⟨c1, c2⟩ | ⟨c1, c2, c3⟩ | ⟨c1, c2, c3⟩
        · exact absurd c1 hne
        · exact absurd h1 c1
        · exact ⟨α1, by rw [a7 i hi h0 hne, c3], f1'.a⟩
      · rw [if_neg hs]
        have hst : α1 5 i = -1 := Decidable.of_not_not (fun q => hs ((stB_0 α1 i).mpr q))
        obtain ⟨A, A1, A2⟩ := a8 i hi h0 hst
        exact ⟨A, A1, f1'.a.trans A2⟩
