theorem put_1 (μ : Mem) (g : Nat → Int32) : put [1] μ (upA (sub [1] μ) 0 g) = upA μ 1 g := by
  funext a
  by_cases h : a = 1
  · subst h; rw [upA_s]; rfl
  · rw [upA_o _ _ h]
    unfold put ixO ixO
    rw [if_neg h]
theorem Rel.z {μ ν : Mem} (h : Rel μ ν) (v : Int32) : Rel (upA μ 1 (upd (μ 1) 7 v)) (upA ν 1 (upd (ν 1) 4 v)) := by
  obtain ⟨⟨a, x⟩, ⟨b, y⟩, e1, e2, -, r⟩ := seed_op h v
  have q1 : f_X11_seed μ v = some (upA μ 1 (upd (μ 1) 7 v), μ 1 7) := rfl
  have q2 : f_X12_seed ν v = some (upA ν 1 (upd (ν 1) 4 v), ν 1 4) := by
    unfold f_X12_seed f_X12_change1
    simp only [i4, if_true, c4, bd, Option.bind_some]
  rw [q1] at e1
  rw [q2] at e2
  injection e1 with e1
  injection e2 with e2
  have f1 : a = upA μ 1 (upd (μ 1) 7 v) := (congrArg Prod.fst e1).symm
  have f2 : b = upA ν 1 (upd (ν 1) 4 v) := (congrArg Prod.fst e2).symm
  rw [← f1, ← f2]
  exact r
theorem draws_L {m : Nat} (hm : m ≤ 60) : ∀ (r x : Nat) (μ ν : Mem) (s : Int32) (f f' : Nat), x + r = m → r < f → r < f' → Rel μ ν →
    Sim RA (f_X11_draws_L20 f μ (nI m) s (nI x)) (f_X12_draws_L20 f' ν (nI m) s (nI x)) := by
  intro r
  induction r with
  | zero =>
    intro x μ ν s f f' hx hf hf' h
    obtain ⟨f, rfl⟩ : ∃ f1, f = f1 + 1 := ⟨f - 1, by omega⟩
    obtain ⟨f', rfl⟩ : ∃ f1, f' = f1 + 1 := ⟨f' - 1, by omega⟩
    have e : nI m ≤ nI x := by rw [nI_leI (by omega) (by omega)]; omega
    rw [f_X11_draws_L20, f_X12_draws_L20, if_pos e, if_pos e]
    exact Sim.pure ⟨rfl, h⟩
  | succ r ih =>
    intro x μ ν s f f' hx hf hf' h
    obtain ⟨f, rfl⟩ : ∃ f1, f = f1 + 1 := ⟨f - 1, by omega⟩
    obtain ⟨f', rfl⟩ : ∃ f1, f' = f1 + 1 := ⟨f' - 1, by omega⟩
    have e : ¬ nI m ≤ nI x := by rw [nI_leI (by omega) (by omega)]; omega
    rw [f_X11_draws_L20, f_X12_draws_L20, if_neg e, if_neg e]
    unfold f_X5_draw f_X12_draw
    simp only [i4, if_true, c4, bd, Option.bind_some]
    have ez : sub [1] μ 0 7 = ν 1 4 := h.ex.2.2.1
    rw [ez, put_1, upA_s, upA_s, upd_s, upd_s]
    obtain ⟨j, hj, ej⟩ := ush8 (ν 1 4 * 1103515245 + 12345)
    have e9 : nI j - nI j / (9 : Int32) * (9 : Int32) = nI (j % 9) := pk_rem (d := 9) (by omega) (by omega) (by omega)
    rw [ej, e9]
    have hz : Rel (upA μ 1 (upd (μ 1) 7 (ν 1 4 * 1103515245 + 12345))) (upA ν 1 (upd (ν 1) 4 (ν 1 4 * 1103515245 + 12345))) := h.z _
    have es : sub [1] μ 0 = μ 1 := rfl
    rw [es]
    obtain ⟨⟨q, hq, r0⟩, z⟩ := id hz.nr
    refine (fly_ok (by omega) r0 z (p := j % 9) (Nat.mod_lt _ (by omega))).bind ?_
    rintro ⟨a, y⟩ ⟨b, w⟩ ⟨e, r1, f1, z1, -⟩
    obtain rfl : y = w := e
    have hr := hz.or (NR.back hq r1 f1 z1 y)
    rw [show nI x + (1 : Int32) = nI (x + 1) from nI_1 x]
    exact ih (x + 1) _ _ _ f f' (by omega) (by omega) (by omega) hr.2
theorem draws_op {μ ν : Mem} (h : Rel μ ν) (x : Int32) : Sim RA (f_X11_draws μ x) (f_X12_draws ν x) := by
  unfold f_X11_draws f_X12_draws
  rw [in_same]
  rcases in_lh x (l := 1) (n := 60) (by omega) (by omega) with e | ⟨e, m, m1, m2, rfl⟩
  · rw [show f_X11_within x (1 : Int32) (60 : Int32) = _ from e]
    exact h.err (c := 1) (by omega)
  · rw [show f_X11_within (nI m) (1 : Int32) (60 : Int32) = _ from e]
    simp only [Option.bind_some]
    rw [if_neg n1, if_neg n1, show (0 : Int32) = nI 0 from rfl]
    exact draws_L m2 m 0 μ ν _ fuel0 fuel0 (by omega) (fuel_ge m (by omega)) (fuel_ge m (by omega)) h
/-- other laws -/
theorem RR.laws {q : Nat} {ρ ρ' ν ν' : Mem} (h : RR q ρ ν) (hc : ∀ c, c < 6 → ρ' c = ρ c) (hn : ∀ i, (i < 2 ∨ (8 ≤ i ∧ i < 53)) → ν' 1 i = ν 1 i)
    (w0 : LR 0 (sub [6, 7, 8, 9] ρ') ν') (w1 : LR 1 (sub [10, 11, 12, 13] ρ') ν') : RR q ρ' ν' := by
  refine ⟨?_, ?_, ?_, ?_, ?_, ?_, ?_, ?_, ?_, ?_, ?_, ?_, ?_, ?_, ?_, w0, w1⟩
  · intro k hk; rw [hc 1 (by omega), hn _ (by omega)]; exact h.kd k hk
  · intro k hk; rw [hc 2 (by omega), hn _ (by omega)]; exact h.mm k hk
  · intro k hk; rw [hc 3 (by omega), hn _ (by omega)]; exact h.po k hk
  · intro k hk; rw [hc 4 (by omega), hn _ (by omega)]; exact h.le k hk
  · intro k hk; rw [hc 5 (by omega), hn _ (by omega)]; exact h.ou k hk
  · rw [hc 0 (by omega), hn _ (by omega)]; exact h.sun
  · rw [hc 0 (by omega)]; exact h.mi
  · rw [hn _ (by omega)]; exact h.mj
  · rw [hc 1 (by omega)]; exact h.kb
  · rw [hc 2 (by omega)]; exact h.mb
  · rw [hc 3 (by omega)]; exact h.pb
  · rw [hc 3 (by omega)]; exact h.pp
  · rw [hc 4 (by omega)]; exact h.lb
  · rw [hc 5 (by omega)]; exact h.ob
  · rw [hc 0 (by omega)]; exact h.sb
/-- a change of laws, and beside -/
theorem Rel.laws {μ ν μ' ν' : Mem} (h : Rel μ ν) (o : Off [1, 2, 7, 8, 9, 10, 11, 12, 13, 14] μ μ') (o' : Off [0, 1, 5] ν ν') (hn : ∀ i, (i < 2 ∨ (8 ≤ i ∧ i < 53)) → ν' 1 i = ν 1 i)
    (w0 : LR 0 (sub [7, 8, 9, 10] μ') ν') (w1 : LR 1 (sub [11, 12, 13, 14] μ') ν') (h3 : ν' 0 3 = ν 0 3) (h14 : ν' 0 14 = ν 0 14) (k7 : μ' 7 0 = μ 7 0) (k11 : μ' 11 0 = μ 11 0)
    (e : Extra (μ' 1) (μ' 2) (μ' 3) (ν' 1)) : Rel μ' ν' := by
  refine h.keep ?_ e (o 0 (by decide)) h3 (fun c hc => o c ?_) (fun c hc => o' c ?_) h14 k7 k11
  · obtain ⟨⟨q, hq, r⟩, z⟩ := h.nr
    have sj : ∀ c, c < 6 → sub PN μ' c = sub PN μ c := fun c hc => o _ (by
      have : ∀ c, c < 6 → PN.getD c 0 ∉ [1, 2, 7, 8, 9, 10, 11, 12, 13, 14] := by decide
      exact this c hc)
    refine ⟨⟨q, hq, r.laws sj hn (w0.frame rfl rfl (fun _ _ => rfl)) (w1.frame rfl rfl (fun _ _ => rfl))⟩, z.like (fun k _ => by rw [sj 4 (by omega)]) (fun k _ => by rw [sj 5 (by omega)])⟩
  · have : ∀ c, c ∈ [4, 5, 6, 29, 30, 31, 32, 33, 34, 15, 17, 19, 21, 78, 79, 80, 81, 82, 83, 74] → c ∉ [1, 2, 7, 8, 9, 10, 11, 12, 13, 14] := by decide
    exact this c hc
  · have : ∀ c, c ∈ [2, 10, 11, 12] → c ∉ [0, 1, 5] := by decide
    exact this c hc
theorem Rel.w0 {μ ν : Mem} (h : Rel μ ν) : LR 0 (sub [7, 8, 9, 10] μ) ν := by
  obtain ⟨⟨q, hq, r⟩, z⟩ := h.nr
  exact r.w0.frame rfl rfl (fun _ _ => rfl)
theorem Rel.w1 {μ ν : Mem} (h : Rel μ ν) : LR 1 (sub [11, 12, 13, 14] μ) ν := by
  obtain ⟨⟨q, hq, r⟩, z⟩ := h.nr
  exact r.w1.frame rfl rfl (fun _ _ => rfl)
theorem LR.none (u : Nat) {lam ν : Mem} (a : lam 0 3 = 0) (b : ν 1 (53 + 125 * u) = 0) : LR u lam ν :=
  ⟨0, by omega, a, b, fun _ => 0, rfl, fun j hj => by omega⟩
theorem Extra.up {f t w s s' : Nat → Int32} (e : Extra f t w s) (h : ∀ i, (2 ≤ i ∧ i < 8) ∨ 303 ≤ i → s' i = s i) : Extra f t w s' := by
  obtain ⟨⟨a, a1, a2, a3⟩, ⟨b, b1, b2, b3⟩, c, d, e⟩ := e
  refine ⟨⟨a, a1, a2, by rw [h 2 (by omega)]; exact a3⟩, ⟨b, b1, b2, by rw [h 3 (by omega)]; exact b3⟩, by rw [h 4 (by omega)]; exact c, fun j hj => ?_, fun j hj => ?_⟩
  · rw [h (303 + j) (by omega)]; exact d j hj
  · rw [h (363 + j) (by omega)]; exact e j hj
theorem put_7 (μ : Mem) (g : Nat → Int32) : put [7, 8, 9, 10] μ (upA (sub [7, 8, 9, 10] μ) 0 g) = upA μ 7 g := by
  funext a
  unfold put
  cases e : ixO [7, 8, 9, 10] 0 a with
  | none =>
    have : a ≠ 7 := fun h => by rw [h] at e; exact absurd e (by decide)
    exact (upA_o _ _ this).symm
  | some j =>
    have e2 := (ixO_get e).2
    rw [Nat.sub_zero] at e2
    show upA (sub [7, 8, 9, 10] μ) 0 g j = upA μ 7 g a
    by_cases hj : j = 0
    · subst hj
      rw [upA_s, show a = 7 from e2.symm, upA_s]
    · have : a ≠ 7 := by
        intro h
        rw [h] at e
        have : ixO [7, 8, 9, 10] 0 7 = some 0 := by decide
        rw [this] at e
        exact hj (Option.some.inj e).symm
      rw [upA_o _ _ hj, upA_o _ _ this]
      show μ ([7, 8, 9, 10].getD j 0) = μ a
      rw [e2]
theorem put_11 (μ : Mem) (g : Nat → Int32) : put [11, 12, 13, 14] μ (upA (sub [11, 12, 13, 14] μ) 0 g) = upA μ 11 g := by
  funext a
  unfold put
  cases e : ixO [11, 12, 13, 14] 0 a with
  | none =>
    have : a ≠ 11 := fun h => by rw [h] at e; exact absurd e (by decide)
    exact (upA_o _ _ this).symm
  | some j =>
    have e2 := (ixO_get e).2
    rw [Nat.sub_zero] at e2
    show upA (sub [11, 12, 13, 14] μ) 0 g j = upA μ 11 g a
    by_cases hj : j = 0
    · subst hj
      rw [upA_s, show a = 11 from e2.symm, upA_s]
    · have : a ≠ 11 := by
        intro h
        rw [h] at e
        have : ixO [11, 12, 13, 14] 0 11 = some 0 := by decide
        rw [this] at e
        exact hj (Option.some.inj e).symm
      rw [upA_o _ _ hj, upA_o _ _ this]
      show μ ([11, 12, 13, 14].getD j 0) = μ a
      rw [e2]
theorem LR.rg {u : Nat} {lam lam' ν ν' : Mem} (h : LR u lam ν) (h0 : lam' 0 3 = lam 0 3) (h2 : ∀ j, j < 60 → lam' 2 j = lam 2 j) (h1 : ∀ i, 53 + 125 * u ≤ i → i < 178 + 125 * u → ν' 1 i = ν 1 i) : LR u lam' ν' := by
  obtain ⟨n, a, b, c, dep, d, e⟩ := h
  refine ⟨n, a, h0.trans b, (h1 _ (by omega) (by omega)).trans c, dep, d, fun j hj => ?_⟩
  rw [h2 j (by omega), h1 _ (by omega) (by omega), h1 _ (by omega) (by omega)]
  exact e j hj
theorem untell_0 {μ ν : Mem} (h : Rel μ ν) : Rel (upA μ 7 (upd (μ 7) 3 0)) (upA ν 1 (upd (ν 1) 53 0)) := by
  refine h.laws (Off.upA (by decide)) (Off.upA (by decide)) (fun i hi => by rw [upA_s, upd_o _ _ (by omega)]) (LR.none 0 ?_ ?_) (h.w1.rg ?_ ?_ ?_) rfl rfl rfl rfl ?_
  · show upA μ 7 (upd (μ 7) 3 0) 7 3 = 0
    rw [upA_s, upd_s]
  · rw [upA_s, upd_s]
  · rfl
  · exact fun _ _ => rfl
  · intro i h1 h2; rw [upA_s, upd_o _ _ (by omega)]
  · rw [upA_o _ _ (by decide), upA_o _ _ (by decide), upA_o _ _ (by decide), upA_s]
    exact h.ex.up (fun i hi => upd_o _ _ (by omega))
theorem untell_1 {μ ν : Mem} (h : Rel μ ν) : Rel (upA μ 11 (upd (μ 11) 3 0)) (upA ν 1 (upd (ν 1) 178 0)) := by
  refine h.laws (Off.upA (by decide)) (Off.upA (by decide)) (fun i hi => by rw [upA_s, upd_o _ _ (by omega)]) (h.w0.rg ?_ ?_ ?_) (LR.none 1 ?_ ?_) rfl rfl rfl rfl ?_
  · rfl
  · exact fun _ _ => rfl
  · intro i h1 h2; rw [upA_s, upd_o _ _ (by omega)]
  · show upA μ 11 (upd (μ 11) 3 0) 11 3 = 0
    rw [upA_s, upd_s]
  · rw [upA_s, upd_s]
  · rw [upA_o _ _ (by decide), upA_o _ _ (by decide), upA_o _ _ (by decide), upA_s]
    exact h.ex.up (fun i hi => upd_o _ _ (by omega))
theorem untell_op {μ ν : Mem} (h : Rel μ ν) (x : Int32) : Sim RA (f_X11_untell μ x) (f_X12_untell ν x) := by
  unfold f_X11_untell f_X12_untell
  rw [in_same]
  rcases in_lh x (l := 0) (n := 1) (by omega) (by omega) with e | ⟨e, m, -, m2, rfl⟩
  · rw [show f_X11_within x (0 : Int32) (1 : Int32) = _ from e]
    exact h.err (c := 1) (by omega)
  · rw [show f_X11_within (nI m) (0 : Int32) (1 : Int32) = _ from e]
    simp only [Option.bind_some]
    rw [if_neg n1, if_neg n1]
    unfold f_X5_lawOf
    have : m = 0 ∨ m = 1 := by omega
    rcases this with e | e <;> subst e
    · rw [if_pos (by decide), text_k (u := 0) (by omega) h.w0]
      simp only [Option.bind_some, bd, put_self]
      rw [if_pos (by decide), miss_k]
      simp only [Option.bind_some, put_self]
      unfold f_X1_forget f_X12_untell_L28
      rw [show (53 : Int32) + (125 : Int32) * nI 0 = nI 53 by decide, if_pos (in_k (show 53 < 387 by omega) (by omega)), cl_I (by omega)]
      simp only [bd, Option.bind_some]
      rw [show sub [7, 8, 9, 10] μ 0 = μ 7 from rfl, put_7]
      by_cases hz : μ 7 3 = 0
      · rw [if_pos hz, if_neg n1, if_pos hz, if_pos (by decide)]
        exact Sim.pure ⟨rfl, untell_0 h⟩
      · rw [if_neg hz, if_pos (by decide), if_neg hz, if_neg n1]
        exact Sim.pure ⟨rfl, untell_0 h⟩
    · rw [if_neg (by decide), text_k (u := 1) (by omega) h.w1]
      simp only [Option.bind_some, bd, put_self]
      rw [if_neg (by decide), if_pos (by decide), miss_k]
      simp only [Option.bind_some, put_self]
      unfold f_X1_forget f_X12_untell_L28
      rw [show (53 : Int32) + (125 : Int32) * nI 1 = nI 178 by decide, if_pos (in_k (show 178 < 387 by omega) (by omega)), cl_I (by omega)]
      simp only [bd, Option.bind_some]
      rw [show sub [11, 12, 13, 14] μ 0 = μ 11 from rfl, put_11]
      by_cases hz : μ 11 3 = 0
      · rw [if_pos hz, if_neg n1, if_pos hz, if_pos (by decide)]
        exact Sim.pure ⟨rfl, untell_1 h⟩
      · rw [if_neg hz, if_pos (by decide), if_neg hz, if_neg n1]
        exact Sim.pure ⟨rfl, untell_1 h⟩
theorem Rel.w {μ ν : Mem} (h : Rel μ ν) : Rel (upA μ 1 (upd (μ 1) 6 0)) (upA ν 1 (upd (ν 1) 3 0)) := by
  obtain ⟨⟨a, a1, a2, a3⟩, -, c, d, e⟩ := h.ex
  refine h.beside (Off.upA (by decide)) (Off.upA (by decide)) (fun i hi => by rw [upA_s, upd_o _ _ (by omega)]) ?_
  rw [upA_s, upA_s, upA_o _ _ (show (2 : Nat) ≠ 1 by decide), upA_o _ _ (show (3 : Nat) ≠ 1 by decide)]
  refine ⟨⟨a, a1, ?_, ?_⟩, ⟨0, by omega, ?_, ?_⟩, ?_, ?_, ?_⟩
  · rw [upd_o _ _ (by decide)]; exact a2
  · rw [upd_o _ _ (by decide)]; exact a3
  · exact upd_s _ _ _
  · exact upd_s _ _ _
  · rw [upd_o _ _ (by decide), upd_o _ _ (by decide)]; exact c
  · intro j hj; rw [upd_o _ _ (by omega)]; exact d j hj
  · intro j hj; rw [upd_o _ _ (by omega)]; exact e j hj
theorem check_L {q n : Nat} (hn : n ≤ 24) {μ ν a b : Mem} (R : Rel μ ν) (k : AH q μ ν a b) (e : ∀ j, j < 24 → a 3 j = b 1 (363 + j)) : ∀ (r x : Nat) (f f' : Nat), x + r = n → r < f → r < f' →
    Sim RA (f_X11_check_L25 f a (nI n) (nI x)) (f_X12_check_L29 f' b (nI n) (nI x)) := by
  have fin : ∀ x : Nat, x ≤ 24 → f_X12_check_L65 b (nI n) (nI x) = some (LB b, if x = n then (0 : Int32) else (1 : Int32) + nI x) := by
    intro x hx
    unfold f_X12_check_L65
    rw [back_ok, Option.bind_some]
    by_cases h : x = n
    · subst h; rw [if_pos rfl, if_pos rfl]
    · rw [if_neg (by rw [nI_inj (by omega) (by omega)]; exact h), if_neg h]
  intro r
  induction r with
  | zero =>
    intro x f f' hx hf hf'
    obtain ⟨f, rfl⟩ : ∃ f1, f = f1 + 1 := ⟨f - 1, by omega⟩
    obtain ⟨f', rfl⟩ : ∃ f1, f' = f1 + 1 := ⟨f' - 1, by omega⟩
    have e : nI n ≤ nI x := by rw [nI_leI (by omega) (by omega)]; omega
    rw [f_X11_check_L25, f_X12_check_L29, if_pos e, if_pos e, fin x (by omega), if_pos (by omega)]
    exact Sim.pure ⟨rfl, R.fa k.fa⟩
  | succ r ih =>
    intro x f f' hx hf hf'
    obtain ⟨f, rfl⟩ : ∃ f1, f = f1 + 1 := ⟨f - 1, by omega⟩
    obtain ⟨f', rfl⟩ : ∃ f1, f' = f1 + 1 := ⟨f' - 1, by omega⟩
    have e' : ¬ nI n ≤ nI x := by rw [nI_leI (by omega) (by omega)]; omega
    rw [f_X11_check_L25, f_X12_check_L29, if_neg e', if_neg e', fin x (by omega), if_neg (show ¬ x = n by omega)]
    by_cases h9 : 9 ≤ x
    · have e9 : (9 : Int32) ≤ nI x := by rw [show (9 : Int32) = nI 9 from rfl, nI_leI (by omega) (by omega)]; omega
      rw [if_pos e9, if_pos e9]
      exact Sim.pure ⟨rfl, R.fa k.fa⟩
    · have e9 : ¬ (9 : Int32) ≤ nI x := by rw [show (9 : Int32) = nI 9 from rfl, nI_leI (by omega) (by omega)]; omega
      rw [if_neg e9, if_neg e9, if_pos (in_k (show x < 24 by omega) (by omega)), if_pos (in_k (show x < 9 by omega) (by omega)), show (363 : Int32) + nI x = nI (363 + x) from nI_add 363 x,
        if_pos (in_k (show 363 + x < 387 by omega) (by omega)), show f_X12_its b (nI x) (4 : Int32) = _ from its_k b 4 (by omega) (by omega), Option.bind_some, cl_I (by omega), cl_I (by omega)]
      have ou : a 40 x = b 1 (8 + 5 * x + 4) := k.1.ou x (by omega)
      rw [e x (by omega), ou, show nI x + (1 : Int32) = nI (x + 1) from nI_1 x]
      by_cases hc : b 1 (363 + x) = b 1 (8 + 5 * x + 4)
      · rw [if_pos hc, if_pos hc]
        exact ih (x + 1) f f' (by omega) (by omega) (by omega)
      · rw [if_neg hc, if_neg hc]
        show Sim RA _ (f_X12_check_L65 b (nI n) (nI x))
        rw [fin x (by omega), if_neg (show ¬ x = n by omega)]
        exact Sim.pure ⟨rfl, R.fa k.fa⟩
theorem check_op {μ ν : Mem} (h : Rel μ ν) : Sim RA (f_X11_check μ) (f_X12_check ν) := by
  obtain ⟨-, ⟨n, n24, m1, m2⟩, -, -, -⟩ := h.ex
  unfold f_X11_check f_X12_check
  simp only [i3, if_true, c3, bd]
  rw [m1, m2]
  have R := h.w
  rw [down_ok]
  simp only [Option.bind_some]
  obtain ⟨⟨q, hq, r⟩, z⟩ := id R.nr
  have ex := R.ex.2.2.2.2
  refine (look_ok' (n := 200) hq r z (by omega)).bind ?_
  intro a b k
  rw [show (0 : Int32) = nI 0 from rfl]
  refine check_L n24 R k (fun j hj => ?_) n 0 fuel0 fuel0 (by omega) (fuel_ge n (by omega)) (fuel_ge n (by omega))
  rw [k.2.1 3 (by decide), k.2.2.1.2.2 (363 + j) (by omega)]
  exact ex j hj
