theorem L199_s {b : Mem} {x3 x5 : Int32} {w t u f : Nat} (hw : w < 1000) (h0 : 0 < u) (hu : u < 1000) :
    f_X12_round_L199 (f + 1) b x3 x5 (nI w) (nI t) (nI u) = f_X12_round_L199 f b x3 x5 (nI w) (nI (10 * t + w / u % 9 + 1)) (nI (u / 9)) := by
  have l : w / u ≤ w := Nat.div_le_self _ _
  rw [f_X12_round_L199, if_neg (by rw [show (0 : Int32) = nI 0 from rfl, nI_leI (by omega) (by omega)]; omega), if_pos (nI_ne0 h0 (by omega)), bd_eq, bd_eq, pk_div (by omega) h0 (by omega),
    show nI (w / u) - nI (w / u) / (9 : Int32) * (9 : Int32) = nI (w / u % 9) from pk_rem (d := 9) (by omega) (by omega) (by omega), show nI u / (9 : Int32) = nI (u / 9) from pk_div (d := 9) (by omega) (by omega) (by omega),
    show (10 : Int32) = nI 10 from rfl, nI_mulI, nI_add, nI_1]
theorem L199_e {b : Mem} {x3 x5 x6 x7 : Int32} {f : Nat} : f_X12_round_L199 (f + 1) b x3 x5 x6 x7 (nI 0) = some (b, if x3 = 0 then x5 else x7) := by
  rw [f_X12_round_L199, if_pos (show nI 0 ≤ 0 by decide)]
  by_cases h : x3 = 0
  · rw [if_pos h, if_pos h]
  · rw [if_neg h, if_neg h]
theorem L199_k {b : Mem} {x3 x5 : Int32} {n w : Nat} (h1 : 1 ≤ n) (h3 : n ≤ 3) (hw : w < 1000) : f_X12_round_L199 fuel0 b x3 x5 (nI w) (0 : Int32) (nI (9 ^ n) / (9 : Int32)) = some (b, if x3 = 0 then x5 else nI (FG n w)) := by
  have n9 := nine h1 h3
  obtain ⟨m, hm⟩ : ∃ m, fuel0 = m + 1 + 1 + 1 + 1 := ⟨fuel0 - 4, by have := fuel_big; omega⟩
  rw [show nI (9 ^ n) / (9 : Int32) = nI (9 ^ n / 9) from pk_div (d := 9) (by omega) (by omega) (by omega), hm, show (0 : Int32) = nI 0 from rfl]
  have : n = 1 ∨ n = 2 ∨ n = 3 := by omega
  rcases this with e | e | e <;> subst e
  · rw [show 9 ^ 1 / 9 = 1 from rfl, L199_s hw (by omega) (by omega), show 1 / 9 = 0 from rfl, L199_e, FG_1, Nat.div_one]
    rw [show 10 * 0 + w % 9 + 1 = w % 9 + 1 by omega]
    rfl
  · rw [show 9 ^ 2 / 9 = 9 from rfl, L199_s hw (by omega) (by omega), show 9 / 9 = 1 from rfl, L199_s hw (by omega) (by omega), show 1 / 9 = 0 from rfl, L199_e, FG_2, Nat.div_one]
    rw [show 10 * (10 * 0 + w / 9 % 9 + 1) + w % 9 + 1 = w % 9 + 1 + (w / 9 % 9 + 1) * 10 by omega]
    rfl
  · rw [show 9 ^ 3 / 9 = 81 from rfl, L199_s hw (by omega) (by omega), show 81 / 9 = 9 from rfl, L199_s hw (by omega) (by omega), show 9 / 9 = 1 from rfl, L199_s hw (by omega) (by omega), show 1 / 9 = 0 from rfl, L199_e, FG_3, Nat.div_one]
    rw [show 10 * (10 * (10 * 0 + w / 81 % 9 + 1) + w / 9 % 9 + 1) + w % 9 + 1 = w % 9 + 1 + (w / 9 % 9 + 1) * 10 + (w / 81 % 9 + 1) * 100 by omega]
    rfl
theorem round_mid {μ ν : Mem} (h : Rel μ ν) {k n : Nat} (hk : k < 9) (h1 : 1 ≤ n) (h3 : n ≤ 3) (hk0 : sub PN μ 5 k = -1) (x3 : Int32) :
    ∃ μ' b' best' x5' x6', f_X11_bestRound μ (nI k) (nI n) = some (μ', best') ∧ f_X12_round_L68 ν (nI k) x3 (nI (9 ^ n)) = f_X12_round_L84 1 b' (nI k) x3 (nI (9 ^ n)) x5' x6' (nI (9 ^ n)) ∧ Rel μ' b' ∧ BR n (9 ^ n) best' x5' x6' := by
  have n9 := nine h1 h3
  obtain ⟨⟨q, hq, r⟩, z⟩ := id h.nr
  have hd := h.down
  have fa : FA μ (LD ν) (put Q0 μ (C4 (sub Q0 μ))) (LD ν) := ⟨copy_off (by decide) μ, Off.refl _ _⟩
  have c5 : ∀ i, i < 9 → sub S0 (put Q0 μ (C4 (sub Q0 μ))) 5 i = sub PN μ 5 i := fun i hi => copy_c CL_0 μ (by omega) (by omega) hi
  have v0 : VAL q (cnt (sub PN μ)) (sub PN μ) (LD ν 1) 0 0 (sub (SL 0) (put Q0 μ (C4 (sub Q0 μ)))) := by
    refine ⟨(OutOK.refl _ _).k c5, fun b hb => ⟨b, 0, ⟨rfl, rfl⟩, ?_, z.copy CL_0, Off.refl _ _, fun i _ => by rw [hb], ?_⟩⟩
    · exact (r.copy CL_0).like rfl rfl (fun _ _ _ _ _ => rfl) rfl rfl rfl rfl (by rw [hb, LD_1])
    · rw [Nat.zero_add]; exact cnt_k c5
  obtain ⟨μ', b', best', x5', x6', m1, m2, m3, m4⟩ := best_L (x3 := x3) hq h1 h3 hk hk0 rfl hd (9 ^ n) 0 (put Q0 μ (C4 (sub Q0 μ))) (LD ν) (-1) (-1) 0 fuel0 fuel0 (by omega) (fuel_ge _ (by omega)) (fuel_ge _ (by omega)) fa (Held.down2 ν) rfl v0
    (fun j _ _ h0 => absurd rfl h0) (Or.inl ⟨rfl, rfl⟩)
  refine ⟨μ', b', best', x5', x6', ?_, ?_, hd.fa m3, m4⟩
  · unfold f_X11_bestRound
    show ((f_X4_howMany (sub PN μ)).bind _) = _
    rw [many4_ok r, Option.bind_some, bd_eq, if_pos rfl, put_self, copy4, Option.bind_some, bd_eq]
    exact m1
  · unfold f_X12_round_L68
    rw [down_ok, Option.bind_some]
    exact m2
theorem round_op {μ ν : Mem} (h : Rel μ ν) (x y v : Int32) : Sim RA (f_X11_round μ x y v) (f_X12_round ν x y v) := by
  unfold f_X11_round f_X12_round
  rw [in_same, in_same]
  rcases one_cases x with ⟨e1, -, e3⟩ | ⟨e1, -, e3, k, hk, rfl⟩
  · rw [e1, e3]
    exact h.err (c := 1) (by omega)
  · rw [e1, e3]
    simp only [Option.bind_some]
    rw [if_neg n1, if_neg n1]
    rcases in_lh y (l := 1) (n := 3) (by omega) (by omega) with e | ⟨e, n, h1, h3, rfl⟩
    · rw [show f_X11_within y (1 : Int32) (3 : Int32) = _ from e]
      exact h.err (c := 1) (by omega)
    · rw [show f_X11_within (nI n) (1 : Int32) (3 : Int32) = _ from e]
      simp only [Option.bind_some]
      rw [if_neg n1, if_neg n1]
      rcases in_lh v (l := 0) (n := 1) (by omega) (by omega) with e | ⟨e, w, -, hw, rfl⟩
      · rw [show f_X11_within v (0 : Int32) (1 : Int32) = _ from e]
        exact h.err (c := 1) (by omega)
      · rw [show f_X11_within (nI w) (0 : Int32) (1 : Int32) = _ from e]
        obtain ⟨⟨q, hq, r⟩, z⟩ := id h.nr
        rw [st4 hk (r.ob k hk), st12 hk, ← r.ou k hk]
        rw [Option.bind_some, Option.bind_some, Option.bind_some, Option.bind_some, if_neg n1, if_neg n1, bd_eq]
        rw [show (if sub PN μ 5 k = -1 then (1 : Int32) else 0) = stB (sub PN μ) k from rfl, put_self]
        by_cases hs : stB (sub PN μ) k = 0
        · rw [if_pos hs, if_pos hs]
          exact h.err (c := 3) (by omega)
        · rw [if_neg hs, if_neg hs]
          have hst : sub PN μ 5 k = -1 := Decidable.of_not_not (fun q => hs ((stB_0 _ k).mpr q))
          obtain ⟨μ', b', best, x5, x6, m1, m2, m3, br⟩ := round_mid h hk h1 h3 hst (nI w)
          have n9 := nine h1 h3
          have ref : (if nI n = (1 : Int32) then f_X12_round_L68 ν (nI k) (nI w) (9 : Int32) else if nI n = (2 : Int32) then f_X12_round_L68 ν (nI k) (nI w) (81 : Int32) else f_X12_round_L68 ν (nI k) (nI w) (729 : Int32)) = f_X12_round_L68 ν (nI k) (nI w) (nI (9 ^ n)) := by
            have : n = 1 ∨ n = 2 ∨ n = 3 := by omega
            rcases this with e | e | e <;> subst e
            · rw [if_pos (show nI 1 = (1 : Int32) from rfl)]; rfl
            · rw [if_neg (show ¬ nI 2 = (1 : Int32) by decide), if_pos (show nI 2 = (2 : Int32) from rfl)]; rfl
            · rw [if_neg (show ¬ nI 3 = (1 : Int32) by decide), if_neg (show ¬ nI 3 = (2 : Int32) by decide)]
              rw [show (729 : Int32) = nI (9 ^ 3) by decide]
          have i3' : inb (3 : Int32) 4 = true := by decide
          have tt : tabT (3 : Int32).toNatClampNeg = nI 1000 := by decide
          rw [ref, m2, m1, Option.bind_some, f_X12_round_L84, if_pos (Int32.le_refl _)]
          rcases br with ⟨rfl, rfl⟩ | ⟨o, w', o8, hw', rfl, rfl, rfl⟩
          · rw [if_neg (show ¬ (0 : Int32) ≤ -1 by decide), if_pos rfl]
            exact m3.err (c := 2) (by omega)
          · have fb := FG_b (w := w') h1 h3
            rw [if_pos (nI_pos' (by omega)), if_neg (nI_ne (by omega)), bd_eq, L199_k h1 h3 (by omega), if_pos i3', if_pos i3', tt, if_pos (show ¬ nI 1000 = 0 by decide), if_pos (show ¬ nI 1000 = 0 by decide), pk_rem (by omega) (by omega) (by omega), pk_div (by omega) (by omega) (by omega)]
            have a1 : (o * 1000 + FG n w') / 1000 = o := by omega
            have a2 : (o * 1000 + FG n w') % 1000 = FG n w' := by omega
            rw [a1, a2]
            by_cases hz : nI w = 0
            · rw [if_pos hz, if_pos hz]
              exact Sim.pure ⟨rfl, m3⟩
            · rw [if_neg hz, if_neg hz]
              exact Sim.pure ⟨rfl, m3⟩
