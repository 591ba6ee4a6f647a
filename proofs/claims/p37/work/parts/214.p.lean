theorem Off.mono {P Q : List Nat} {μ μ' : Mem} (h : Off P μ μ') (s : ∀ a, a ∈ P → a ∈ Q) : Off Q μ μ' := fun a ha => h a (fun e => ha (s a e))
/-- a change of scratch alone -/
theorem Fr.scr {ρ ν ρ' ν' : Mem} (a : Off [7, 11] ρ ρ') (b : Off [6, 7] ν ν') : Fr ρ ν ρ' ν' :=
  ⟨a.mono (by decide), fun i _ => by rw [a 0 (by decide)], b.mono (by decide), fun i _ _ => by rw [b 1 (by decide)]⟩
theorem RR.scr {q : Nat} {ρ ν ρ' ν' : Mem} (h : RR q ρ ν) (a : Off [7, 11] ρ ρ') (b : Off [6, 7] ν ν') : RR q ρ' ν' := by
  refine h.step (Fr.scr a b) ?_ ?_ ?_ ?_ ?_ ?_
  · rw [a 0 (by decide)]; exact h.mi
  · rw [b 1 (by decide)]; exact h.mj
  · rw [a 4 (by decide), b 1 (by decide)]; exact h.le
  · rw [a 5 (by decide), b 1 (by decide)]; exact h.ou
  · rw [a 4 (by decide)]; exact h.lb
  · rw [a 5 (by decide)]; exact h.ob
theorem in_k {k n : Nat} (h : k < n) (hn : n ≤ 100000) : inb (nI k) n = true := (inb_iff (by omega)).mpr h
theorem text_0 {lam ν : Mem} (h : LR 0 lam ν) : f_X12_hasText ν (0 : Int32) = some (ν, if lam 0 3 = 0 then 0 else 1) := text_k (u := 0) (by decide) h
theorem text_1 {lam ν : Mem} (h : LR 1 lam ν) : f_X12_hasText ν (1 : Int32) = some (ν, if lam 0 3 = 0 then 0 else 1) := text_k (u := 1) (by decide) h
theorem told_ok {q : Nat} {ρ ν : Mem} (h : RR q ρ ν) {k : Nat} (hk : k < 9) :
    Sim (fun a b => a.2 = b.2 ∧ Off [7] ρ a.1 ∧ Off [6, 7] ν b.1) (f_X9_spending_k6 ρ (nI k)) (f_X12_spendsTold ν (nI k)) := by
  have i1 : inb (nI k) 9 = true := in_k hk (by omega)
  have i2 : (nI k).toNatClampNeg = k := cl_I (by omega)
  unfold f_X9_spending_k6 f_X12_spendsTold
  rw [miss_k, text_0 h.w0]
  simp only [Option.bind_some, bd, put_self, i1, i2]
  have b1 : inb (1 : Int32) 387 = true := by decide
  have c1 : (1 : Int32).toNatClampNeg = 1 := by decide
  by_cases hz : sub [6, 7, 8, 9] ρ 0 3 = 0
  · rw [if_pos hz, if_pos hz, if_neg (show ¬ (1 : Int32) = 0 by decide), if_pos (show (0 : Int32) = 0 from rfl), if_pos b1, c1, ← h.sun]
    unfold f_X7_spending_k6
    exact Sim.pure ⟨rfl, Off.refl _ _, Off.refl _ _⟩
  · rw [if_neg hz, if_neg hz, if_pos (show (0 : Int32) = 0 from rfl), if_neg (show ¬ (1 : Int32) = 0 by decide)]
    have d1 : inb (115 : Int32) 128 = true := by decide
    have d2 : inb (112 : Int32) 128 = true := by decide
    have d3 : inb (109 : Int32) 128 = true := by decide
    rw [if_pos trivial, if_pos trivial, if_pos b1, if_pos d1, show (3 : Int32) = nI 3 from rfl, its_k _ 3 hk (by omega)]
    simp only [Option.bind_some]
    rw [if_pos d2, show (1 : Int32) = nI 1 from rfl, its_k _ 1 hk (by omega)]
    simp only [Option.bind_some]
    rw [if_pos d3]
    have e115 : (115 : Int32).toNatClampNeg = 115 := by decide
    have e112 : (112 : Int32).toNatClampNeg = 112 := by decide
    have e109 : (109 : Int32).toNatClampNeg = 109 := by decide
    have e1 : (nI 1).toNatClampNeg = 1 := by decide
    rw [e115, e112, e109, e1]
    simp only [upA_s, upA_o _ _ (show (1 : Nat) ≠ 6 by decide)]
    have g := gives_ok (u := 0) (by omega) (lam := sub [6, 7, 8, 9] ρ)
      (ν := upA (upA (upA ν 6 (upd (ν 6) 115 (ν 1 1))) 6 (upd (upd (ν 6) 115 (ν 1 1)) 112 (ν 1 (8 + 5 * k + 3)))) 6
        (upd (upd (upd (ν 6) 115 (ν 1 1)) 112 (ν 1 (8 + 5 * k + 3))) 109 (ν 1 (8 + 5 * k + 1))))
      (x1 := ρ 0 5) (x2 := ρ 4 k) (x3 := ρ 2 k) (h.w0.frame rfl rfl (fun i _ => rfl)) hz
      (by rw [upA_s, upd_s, h.mm k hk])
      (by rw [upA_s, upd_o _ _ (by decide), upd_s, h.le k hk])
      (by rw [upA_s, if_pos rfl, upd_o _ _ (by decide), upd_o _ _ (by decide), upd_s, h.sun])
    refine g.bind ?_
    rintro a b ⟨q1, q2, q3⟩
    refine Sim.pure ⟨q1, put_w ρ q2, ?_⟩
    exact (((Off.upA (by decide)).trans (Off.upA (by decide))).trans (Off.upA (by decide))).trans (q3.mono (by decide))
/-- what an amount worked on both sides gives -/
def SP (ρ ν : Mem) (a b : Mem × Int32) : Prop := (∃ j, j ≤ 99 ∧ a.2 = nI j ∧ b.2 = nI j) ∧ Off [7, 11] ρ a.1 ∧ Off [6, 7] ν b.1
theorem spends_ok {q : Nat} {ρ ν : Mem} (h : RR q ρ ν) {k : Nat} (hk : k < 9) : Sim (SP ρ ν) (f_X4_spends ρ (nI k)) (f_X12_spends ν (nI k)) := by
  obtain ⟨j, hj, ej⟩ := h.kb k hk
  have kd := h.kd k hk
  have mm := h.mm k hk
  have kk := kind_k hk hj ej
  have i1 : inb (nI k) 9 = true := in_k hk (by omega)
  have i2 : (nI k).toNatClampNeg = k := cl_I (by omega)
  have b1 : inb (1 : Int32) 387 = true := by decide
  have c1 : (1 : Int32).toNatClampNeg = 1 := by decide
  -- both sides clamp one value
  have fin : ∀ x : Int32, Sim (SP ρ ν) ((f_X4_held x).bind fun q3 => some (ρ, q3)) ((f_X12_held x (0 : Int32) (99 : Int32)).bind fun q5 => some (ν, q5)) := by
    intro x
    obtain ⟨v, hv, e1, e2⟩ := held_eq x
    rw [e1, e2]
    exact Sim.pure ⟨⟨v, hv, rfl, rfl⟩, Off.refl _ _, Off.refl _ _⟩
  have R : f_X12_spends ν (nI k) = (bd ((1 : Int32) + ν 1 1) fun y3 => if nI j = (1 : Int32) then (f_X12_held (1 : Int32) (0 : Int32) (99 : Int32)).bind fun q5 => (some (ν, q5)) else (if nI j = (2 : Int32) then bd (y3 - (ρ 2 k / (2 : Int32))) fun y6 => ((f_X12_held y6 (0 : Int32) (99 : Int32)).bind fun q7 => (some (ν, q7))) else (if nI j = (4 : Int32) then bd ((1 : Int32) + (ρ 2 k - ρ 2 k / (3 : Int32) * (3 : Int32))) fun y8 => ((f_X12_held y8 (0 : Int32) (99 : Int32)).bind fun q9 => (some (ν, q9))) else (if nI j = (5 : Int32) then bd (y3 - (ρ 2 k / (2 : Int32))) fun y10 => ((f_X12_held y10 (0 : Int32) (99 : Int32)).bind fun q11 => (some (ν, q11))) else (if nI j = (6 : Int32) then (f_X12_spendsTold ν (nI k)).bind fun q12 => ((f_X12_held q12.2 (0 : Int32) (99 : Int32)).bind fun q13 => (some (q12.1, q13))) else (f_X12_held y3 (0 : Int32) (99 : Int32)).bind fun q14 => (some (ν, q14))))))) := by
    unfold f_X12_spends
    have t1 := its_k ν 1 hk (by omega)
    have t0 := its_k ν 0 hk (by omega)
    rw [← mm] at t1
    rw [← kd, ej] at t0
    rw [show f_X12_its ν (nI k) (1 : Int32) = some (ν, ρ 2 k) from t1]
    simp only [Option.bind_some]
    rw [if_pos b1, c1, show f_X12_its ν (nI k) (0 : Int32) = some (ν, nI j) from t0]
    rfl
  rw [R]
  unfold f_X4_spends
  rw [kk]
  simp only [Option.bind_some, bd]
  rw [← h.sun]
  have : j = 0 ∨ j = 1 ∨ j = 2 ∨ j = 3 ∨ j = 4 ∨ j = 5 ∨ j = 6 := by omega
  rcases this with e | e | e | e | e | e | e <;> subst e
  · exact fin ((1 : Int32) + ρ 0 5)
  · exact fin 1
  · have := fin ((1 : Int32) + ρ 0 5 - ρ 2 k / (2 : Int32))
    unfold f_X2_spending_k2 f_X7_spending_k2
    simp only [Option.bind_some, i1, i2]
    exact this
  · exact fin ((1 : Int32) + ρ 0 5)
  · have := fin ((1 : Int32) + (ρ 2 k - ρ 2 k / (3 : Int32) * (3 : Int32)))
    unfold f_X3_spending_k4 f_X0_spending_k4
    simp only [Option.bind_some, i1, i2]
    exact this
  · have := fin ((1 : Int32) + ρ 0 5 - ρ 2 k / (2 : Int32))
    unfold f_X2_spending_k5 f_X7_spending_k5
    simp only [Option.bind_some, i1, i2]
    exact this
  · show Sim (SP ρ ν) ((f_X9_spending_k6 ρ (nI k)).bind fun q14 => (f_X4_held q14.2).bind fun q15 => some (q14.1, q15))
      ((f_X12_spendsTold ν (nI k)).bind fun q12 => (f_X12_held q12.2 (0 : Int32) (99 : Int32)).bind fun q13 => some (q12.1, q13))
    refine (told_ok h hk).bind ?_
    rintro ⟨a, x⟩ ⟨b, y⟩ ⟨e, o1, o2⟩
    obtain rfl : x = y := e
    obtain ⟨v, hv, e1, e2⟩ := held_eq x
    show Sim (SP ρ ν) ((f_X4_held x).bind _) ((f_X12_held x (0 : Int32) (99 : Int32)).bind _)
    rw [e1, e2]
    exact Sim.pure ⟨⟨v, hv, rfl, rfl⟩, o1.mono (by decide), o2⟩
/-- left of k set on both sides -/
theorem RR.left {q : Nat} {ρ ν : Mem} (h : RR q ρ ν) {k l : Nat} (hk : k < 9) (hl : l < 1000) :
    RR q (upA ρ 4 (upd (ρ 4) k (nI l))) (upA ν 1 (upd (ν 1) (8 + 5 * k + 3) (nI l))) ∧ Fr ρ ν (upA ρ 4 (upd (ρ 4) k (nI l))) (upA ν 1 (upd (ν 1) (8 + 5 * k + 3) (nI l))) := by
  have fr : Fr ρ ν (upA ρ 4 (upd (ρ 4) k (nI l))) (upA ν 1 (upd (ν 1) (8 + 5 * k + 3) (nI l))) := by
    refine ⟨Off.upA (by decide), fun i _ => by rw [upA_o _ _ (by decide)], Off.upA (by decide), fun i hi hj => ?_⟩
    rw [upA_s, upd_o _ _ (by omega)]
  refine ⟨h.step fr ?_ ?_ ?_ ?_ ?_ ?_, fr⟩
  · rw [upA_o _ _ (by decide)]; exact h.mi
  · rw [upA_s, upd_o _ _ (by omega)]; exact h.mj
  · intro i hi
    rw [upA_s, upA_s]
    by_cases e : i = k
    · rw [e, upd_s, upd_s]
    · rw [upd_o _ _ e, upd_o _ _ (by omega)]; exact h.le i hi
  · intro i hi
    rw [upA_o _ _ (by decide), upA_s, upd_o _ _ (by omega)]; exact h.ou i hi
  · intro i hi
    rw [upA_s]
    by_cases e : i = k
    · rw [e, upd_s]; exact ⟨l, hl, rfl⟩
    · rw [upd_o _ _ e]; exact h.lb i hi
  · intro i hi
    rw [upA_o _ _ (by decide)]; exact h.ob i hi
/-- lessen and loses by one amount -/
theorem less_ok {q : Nat} {ρ ν : Mem} (h : RR q ρ ν) {k j : Nat} (hk : k < 9) (hj : j ≤ 99) :
    Sim (fun a b => RR q a b ∧ Fr ρ ν a b ∧ Off [4] ρ a) (f_X4_lessen ρ (nI k) (nI j)) (f_X12_loses ν (nI k) (nI j)) := by
  obtain ⟨l, hl, el⟩ := h.lb k hk
  rw [lessen_k ρ hk el hl hj, loses_k ν hk (by rw [← h.le k hk]; exact el) hl hj]
  obtain ⟨r, f⟩ := h.left hk (show l - j < 1000 by omega)
  exact Sim.pure ⟨r, f, Off.upA (by decide)⟩
