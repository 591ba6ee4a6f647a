theorem L7_eq : ∀ (r x : Nat) (b : Mem) (f : Nat), x + r = 9 → r < f →
    f_X12_lastAll_L7 f b (nI x) = f_X12_lastAll_L30 fuel0 (upA b 8 (fun k => if x ≤ k ∧ k < 9 then 201 else b 8 k)) (nI 1) := by
  intro r
  induction r with
  | zero =>
    intro x b f hx hf
    obtain ⟨f, rfl⟩ : ∃ f', f = f' + 1 := ⟨f - 1, by omega⟩
    have e : (9 : Int32) ≤ nI x := by rw [show (9 : Int32) = nI 9 from rfl, nI_leI (by omega) (by omega)]; omega
    have : upA b 8 (fun k => if x ≤ k ∧ k < 9 then 201 else b 8 k) = b := by
      funext a
      by_cases h : a = 8
      · subst h; rw [upA_s]; funext k; rw [if_neg (by omega)]
      · rw [upA_o _ _ h]
    rw [f_X12_lastAll_L7, if_pos e, this, show (1 : Int32) = nI 1 from rfl]
  | succ r ih =>
    intro x b f hx hf
    obtain ⟨f, rfl⟩ : ∃ f', f = f' + 1 := ⟨f - 1, by omega⟩
    have hx9 : x < 9 := by omega
    have e : ¬ (9 : Int32) ≤ nI x := by rw [show (9 : Int32) = nI 9 from rfl, nI_leI (by omega) (by omega)]; omega
    rw [f_X12_lastAll_L7, if_neg e, if_pos (in_k hx9 (by omega)), cl_I (by omega), show nI x + (1 : Int32) = nI (x + 1) from nI_1 x]
    simp only [bd]
    rw [ih (x + 1) _ f (by omega) (by omega), upA_2, upA_s]
    refine congrArg (fun m => f_X12_lastAll_L30 fuel0 m (nI 1)) (congrArg (upA b 8) (funext fun k => ?_))
    by_cases hk : k = x
    · subst hk; rw [upd_s, if_neg (by omega), if_pos ⟨by omega, hx9⟩]
    · rw [upd_o _ _ hk]
      by_cases hc : x ≤ k ∧ k < 9
      · rw [if_pos hc, if_pos ⟨by omega, hc.2⟩]
      · rw [if_neg hc, if_neg (fun h => hc ⟨by omega, h.2⟩)]
theorem lastAll_ok {q : Nat} (hq : q ≤ 9999) {ρ ν : Mem} (r : RR q ρ ν) :
    ∃ α' b', RR (q + 200) α' b' ∧ Held ν b' ∧ UU q 200 ρ α' b' ∧ Off [0, 4, 5, 7, 11] ρ α' ∧ f_X12_lastAll ν = some (LB b') ∧
      (∃ s', f_X4_pass ρ (nI 200) = some (α', s')) ∧
      (∀ i, i < 9 → ρ 5 i = -1 → ∃ A, f_X4_lastsFor ρ (nI i) = some (A, b' 8 i) ∧ Off [0, 4, 5, 7, 11] ρ A) := by
  have hd : Held ν (upA (LD ν) 8 (fun k => if 0 ≤ k ∧ k < 9 then 201 else LD ν 8 k)) := (Held.down ν).until _
  obtain ⟨α', b', a1, a2, a3, a4, a5, a6, -, a8⟩ := run_L hq (ρ0 := ρ) 200 0 ρ _ fuel0 fuel0 0 (by omega) (fuel_ge 200 (by omega)) (fuel_ge 200 (by omega)) (r.down.b8 _) hd
    (fun k hk h0 => Or.inl ⟨h0, by rw [upA_s, if_pos ⟨by omega, hk⟩]⟩)
  refine ⟨α', b', a1, a2, a3, a4, ?_, ?_, ?_⟩
  · unfold f_X12_lastAll
    rw [down_ok, Option.bind_some, show (0 : Int32) = nI 0 from rfl, L7_eq 9 0 (LD ν) fuel0 (by omega) (fuel_ge 9 (by omega))]
    exact a5
  · unfold f_X4_pass
    rw [show (0 : Int32) = nI 0 from rfl]
    exact a6
  · intro i hi h0
    unfold f_X4_lastsFor
    rw [show (1 : Int32) = nI (0 + 1) from rfl]
    exact a8 i hi h0 h0
theorem UU.t {q : Nat} {ρ α b : Mem} (u : UU q 200 ρ α b) {k : Nat} (hk : k < 9) (h0 : ρ 5 k = -1) : ∃ t, 1 ≤ t ∧ t ≤ 201 ∧ b 8 k = nI t := by
  rcases u k hk h0 with ⟨-, e⟩ | ⟨t, t1, t2, -, e⟩
  · exact ⟨201, by omega, by omega, e⟩
  · exact ⟨t, t1, by omega, e⟩
theorem LB_o (b : Mem) {a : Nat} (h : a ≠ 1) : LB b a = b a := upA_o _ _ h
theorem lasts_op {μ ν : Mem} (h : Rel μ ν) (x : Int32) : Sim RA (f_X11_lasts μ x) (f_X12_lasts ν x) := by
  unfold f_X11_lasts f_X12_lasts
  have er : ∀ c : Nat, 0 < c → c < 7 → ∀ y, f_X12_lasts_L24 ν y (nI c) = (f_X12_error ν (nI c)).bind fun q4 => some (q4.1, q4.2) := by
    intro c h1 h2 y
    unfold f_X12_lasts_L24
    rw [show (0 : Int32) = nI 0 from rfl, if_neg (by rw [nI_leI (by omega) (by omega)]; omega)]
  rcases one_cases x with ⟨e1, -, e3⟩ | ⟨e1, -, e3, k, hk, rfl⟩
  · rw [e1, e3]
    simp only [Option.bind_some]
    rw [if_pos trivial, if_pos trivial, show f_X12_lasts_L24 ν x (1 : Int32) = _ from er 1 (by omega) (by omega) x]
    exact h.err (c := 1) (by omega)
  · rw [e1, e3]
    obtain ⟨⟨q, hq, r⟩, z⟩ := id h.nr
    simp only [Option.bind_some]
    rw [if_neg n1, if_neg n1, st4 hk (r.ob k hk), st12 hk, ← r.ou k hk]
    simp only [Option.bind_some, bd, put_self]
    rw [show (if sub PN μ 5 k = -1 then (1 : Int32) else 0) = stB (sub PN μ) k from rfl]
    by_cases hs : stB (sub PN μ) k = 0
    · rw [if_pos hs, if_pos hs, show f_X12_lasts_L24 ν (nI k) (3 : Int32) = _ from er 3 (by omega) (by omega) _]
      exact h.err (c := 3) (by omega)
    · rw [if_neg hs, if_neg hs, copy4]
      have hst : sub PN μ 5 k = -1 := Decidable.of_not_not (fun q => hs ((stB_0 _ k).mpr q))
      have ah := AH.mk r z
      have hc : sub PH (CA μ) 5 k = -1 := by
        rw [← hst]
        exact copy_c CL_A μ (by omega) (by omega) hk
      obtain ⟨α', b', a1, a2, a3, a4, a5, a6, a8⟩ := lastAll_ok hq (r.copy CL_A)
      obtain ⟨A, A1, A2⟩ := a8 k hk hc
      simp only [Option.bind_some]
      rw [show f_X4_lastsFor (sub PH (put QA μ (C4 (sub QA μ)))) (nI k) = _ from A1]
      unfold f_X12_lasts_L24
      rw [if_pos (show (0 : Int32) ≤ 0 by decide), a5]
      simp only [Option.bind_some]
      have fa : FA μ ν (put PH (put QA μ (C4 (sub QA μ))) A) (LB b') := ⟨ah.2.1.trans (put_A A2), a2.back.2⟩
      have i1 := in_k hk (show 9 ≤ 100000 by omega)
      simp only [i1, if_true]
      rw [cl_I (by omega), LB_o _ (by decide)]
      by_cases h2 : b' 8 k = 201
      · rw [if_pos h2, if_pos h2]
        exact (h.fa fa).err (c := 2) (by omega)
      · rw [if_neg h2, if_neg h2]
        exact Sim.pure ⟨rfl, h.fa fa⟩
theorem lastOne_L {q : Nat} {a c α' b' : Mem} (hq : q ≤ 9999) (R : Rel a c) (r : RR q (sub PN a) c) (ra : RR (q + 200) (sub PH a) b') (c8 : c 8 = b' 8) (u : UU q 200 (sub PN a) (sub PH a) b') :
    ∀ (r' x : Nat) (l g bst : Int32) (f f' : Nat), x + r' = 9 → r' < f → r' < f' →
      ((l = -1 ∧ g = 0 ∧ bst = -1) ∨ ∃ j, j < 9 ∧ sub PN a 5 j = -1 ∧ l = nI j ∧ bst = nI j ∧ g = b' 8 j) →
      Sim RA (f_X11_lastOne_L13 f a l g (nI x)) (f_X12_lastOne_L8 f' c bst (nI x)) := by
  intro r'
  induction r' with
  | zero =>
    intro x l g bst f f' hx hf hf' hi
    obtain ⟨f, rfl⟩ : ∃ f1, f = f1 + 1 := ⟨f - 1, by omega⟩
    obtain ⟨f', rfl⟩ : ∃ f1, f' = f1 + 1 := ⟨f' - 1, by omega⟩
    have e : (9 : Int32) ≤ nI x := by rw [show (9 : Int32) = nI 9 from rfl, nI_leI (by omega) (by omega)]; omega
    rw [f_X11_lastOne_L13, f_X12_lastOne_L8, if_pos e, if_pos e]
    rcases hi with ⟨rfl, rfl, rfl⟩ | ⟨j, hj, -, rfl, rfl, -⟩
    · rw [if_neg (by decide), if_pos rfl]
      exact R.err (c := 2) (by omega)
    · rw [if_pos (nI_pos' (by omega)), if_neg (nI_ne (by omega))]
      exact Sim.pure ⟨rfl, R⟩
  | succ r' ih =>
    intro x l g bst f f' hx hf hf' hi
    obtain ⟨f, rfl⟩ : ∃ f1, f = f1 + 1 := ⟨f - 1, by omega⟩
    obtain ⟨f', rfl⟩ : ∃ f1, f' = f1 + 1 := ⟨f' - 1, by omega⟩
    have hx9 : x < 9 := by omega
    have e : ¬ (9 : Int32) ≤ nI x := by rw [show (9 : Int32) = nI 9 from rfl, nI_leI (by omega) (by omega)]; omega
    rw [f_X11_lastOne_L13, f_X12_lastOne_L8, if_neg e, if_neg e, st4 hx9 (r.ob x hx9), st12 hx9, ← r.ou x hx9]
    simp only [Option.bind_some, bd, put_self]
    rw [show (if sub PN a 5 x = -1 then (1 : Int32) else 0) = stB (sub PN a) x from rfl, show nI x + (1 : Int32) = nI (x + 1) from nI_1 x]
    by_cases hs : stB (sub PN a) x = 0
    · rw [if_pos hs, if_pos hs]
      exact ih (x + 1) l g bst f f' (by omega) (by omega) (by omega) hi
    · rw [if_neg hs, if_neg hs, st4 hx9 (ra.ob x hx9)]
      simp only [Option.bind_some, bd, put_self]
      have hst : sub PN a 5 x = -1 := Decidable.of_not_not (fun q => hs ((stB_0 _ x).mpr q))
      have i1 := in_k hx9 (show 9 ≤ 100000 by omega)
      have cx : (nI x).toNatClampNeg = x := cl_I (by omega)
      have m6 : a 23 6 = nI q := r.mi
      -- how long x lasts
      have T : ∃ t, 1 ≤ t ∧ t ≤ 201 ∧ b' 8 x = nI t ∧
          (if stB (sub PH a) x = 0 then (if inb (nI x) 9 = true then f_X11_lastOne_L73 (f_X11_lastOne_L13 f) a l g (nI x) (a 40 (nI x).toNatClampNeg - a 23 6) else none) else f_X11_lastOne_L73 (f_X11_lastOne_L13 f) a l g (nI x) (201 : Int32)) =
            f_X11_lastOne_L73 (f_X11_lastOne_L13 f) a l g (nI x) (nI t) := by
        rcases u x hx9 hst with ⟨e1, e2⟩ | ⟨t, t1, t2, e1, e2⟩
        · refine ⟨201, by omega, by omega, e2, ?_⟩
          rw [if_neg (fun h => (stB_0 _ x).mp h e1)]
          rfl
        · refine ⟨t, t1, by omega, e2, ?_⟩
          have e1' : a 40 x = nI (q + t) := e1
          rw [if_pos ((stB_0 _ x).mpr (by rw [e1]; exact nI_ne (by omega))), if_pos i1, cx, e1', m6, nI_subI (by omega), Nat.add_sub_cancel_left]
      obtain ⟨t, t1, t2, e2, eT⟩ := T
      rw [eT]
      unfold f_X11_lastOne_L73
      rw [show nI x + (1 : Int32) = nI (x + 1) from nI_1 x]
      rcases hi with ⟨rfl, rfl, rfl⟩ | ⟨j, hj, hj1, rfl, rfl, rfl⟩
      · rw [if_neg (by rw [show (0 : Int32) = nI 0 from rfl, nI_leI (by omega) (by omega)]; omega), if_pos rfl]
        exact ih (x + 1) _ _ _ f f' (by omega) (by omega) (by omega) (Or.inr ⟨x, hx9, hst, rfl, rfl, e2.symm⟩)
      · rw [if_neg (nI_ne (by omega)), if_pos i1, if_pos (in_k hj (by omega)), cx, cl_I (by omega), c8, e2]
        by_cases hle : nI t ≤ b' 8 j
        · rw [if_pos hle, if_pos hle]
          exact ih (x + 1) _ _ _ f f' (by omega) (by omega) (by omega) (Or.inr ⟨j, hj, hj1, rfl, rfl, rfl⟩)
        · rw [if_neg hle, if_neg hle]
          exact ih (x + 1) _ _ _ f f' (by omega) (by omega) (by omega) (Or.inr ⟨x, hx9, hst, rfl, rfl, e2.symm⟩)
theorem lastOne_op {μ ν : Mem} (h : Rel μ ν) : Sim RA (f_X11_lastOne μ) (f_X12_lastOne ν) := by
  obtain ⟨⟨q, hq, r⟩, z⟩ := id h.nr
  have ah := AH.mk r z
  obtain ⟨α', b', a1, a2, a3, a4, a5, ⟨s', a6⟩, a8⟩ := lastAll_ok hq (r.copy CL_A)
  unfold f_X11_lastOne f_X12_lastOne f_X11_lookAhead
  rw [copy4, a5]
  simp only [Option.bind_some, bd]
  rw [show f_X4_pass (sub PH (put QA μ (C4 (sub QA μ)))) (200 : Int32) = _ from a6]
  simp only [Option.bind_some]
  have fa : FA μ ν (put PH (put QA μ (C4 (sub QA μ))) α') (LB b') := ⟨ah.2.1.trans (put_A a4), a2.back.2⟩
  have R := h.fa fa
  have sp : sub PH (put PH (put QA μ (C4 (sub QA μ))) α') = α' := sub_A a4
  have sn5 : ∀ k, sub PN (put PH (put QA μ (C4 (sub QA μ))) α') 5 k = sub PN μ 5 k := fun k => by
    show put PH (put QA μ (C4 (sub QA μ))) α' 28 k = μ 28 k
    rw [fa.1 28 (by decide)]
  obtain ⟨⟨q', hq', r'⟩, -⟩ := id R.nr
  have qq : q' = q := by
    have e1 := r'.mj
    have e2 := r.mj
    rw [a2.back.1, e2, nI_inj (by omega) (by omega)] at e1
    exact e1.symm
  subst qq
  rw [show (0 : Int32) = nI 0 from rfl]
  refine lastOne_L hq R r' (α' := α') (b' := b') (by rw [sp]; exact a1) (LB_o _ (by decide)) ?_ 9 0 _ _ _ fuel0 fuel0 (by omega) (fuel_ge 9 (by omega)) (fuel_ge 9 (by omega)) (Or.inl ⟨rfl, rfl, rfl⟩)
  rw [sp]
  intro k hk h0
  rw [sn5 k] at h0
  refine a3 k hk ?_
  rw [← h0]
  exact copy_c CL_A μ (by omega) (by omega) hk
