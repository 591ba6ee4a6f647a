theorem put_upA {P : List Nat} {n : Nat} (hP : Apart P n) (μ a : Mem) {j : Nat} (hj : j < n) (g : Nat → Int32) : put P μ (upA a j g) = upA (put P μ a) (P.getD j 0) g := by
  funext c
  by_cases hc : c = P.getD j 0
  · subst hc; rw [put_at hP _ _ hj, upA_s, upA_s]
  · rw [upA_o _ _ hc]
    unfold put
    cases e : ixO P 0 c with
    | none => rfl
    | some i =>
      have e2 := (ixO_get e).2
      rw [Nat.sub_zero] at e2
      have : i ≠ j := fun h => hc (by rw [← e2, h])
      show upA a j g i = a i
      rw [upA_o _ _ this]
theorem copy1 {P : List Nat} (hP : Apart P 4) (τ : Mem) :
    ((f_X1_copyFrom (sub P τ)).bind fun q => some (put P τ q)) = some (upA (upA τ (P.getD 1 0) (va_cpy (τ (P.getD 3 0)) (τ (P.getD 1 0)) 0 0 60)) (P.getD 0 0) (upd (τ (P.getD 0 0)) 3 (τ (P.getD 2 0) 3))) := by
  unfold f_X1_copyFrom
  rw [if_pos (show inc (0 : Int32) (0 : Int32) (60 : Int32) 60 60 = true by decide)]
  simp only [bd, Option.bind_some]
  rw [put_upA hP _ _ (by omega), put_upA hP _ _ (by omega), put_self]
  rfl
/-- a scene copied into another -/
theorem copy5 {τ : Mem} (hb : incb (τ 24) (0 : Int32) (0 : Int32) (60 : Int32) 60 60 = true) : ∃ τ', f_X5_copyFrom τ = some τ' ∧
    (∀ a, 13 ≤ a → τ' a = τ a) ∧ τ' 0 = upd (upd (upd (τ 0) 5 (τ 13 5)) 6 (τ 13 6)) 7 (τ 13 7) ∧ τ' 1 = upd (τ 1) 3 (τ 14 3) ∧ τ' 2 = va_cpy (τ 15) (τ 2) 0 0 60 ∧
    τ' 3 = upd (τ 3) 3 (τ 16 3) ∧ τ' 4 = va_cpy (τ 17) (τ 4) 0 0 60 ∧ τ' 5 = upd (upd (τ 5) 5 (τ 18 5)) 6 (τ 18 6) ∧
    (τ' 6 = va_cpy (τ 19) (τ 6) 0 0 9 ∧ τ' 7 = va_cpy (τ 20) (τ 7) 0 0 9 ∧ τ' 8 = va_cpy (τ 21) (τ 8) 0 0 9 ∧ τ' 9 = va_cpy (τ 22) (τ 9) 0 0 9 ∧ τ' 10 = va_cpy (τ 23) (τ 10) 0 0 9) ∧
    τ' 11 = va_cpy (τ 24) (τ 11) 0 0 60 ∧ τ' 12 = va_cpy (τ 25) (τ 12) 0 0 24 := by
  have s1 := copy1 (P := [1, 2, 14, 15]) (by decide) τ
  have s2 := fun m => copy1 (P := [3, 4, 16, 17]) (by decide) m
  unfold f_X5_copyFrom
  have hbind : ∀ {β : Type} (x : Option Mem) (P : List Nat) (μ : Mem) (k : Mem → Option β), (x.bind fun q => bd (put P μ q) k) = (x.bind fun q => some (put P μ q)).bind k := by
    intro β x P μ k
    cases x <;> rfl
  rw [hbind, s1, Option.bind_some, hbind, s2, Option.bind_some, hbind, copy4, Option.bind_some, Option.bind_some]
  generalize hM : (upA (upA (upA (upA τ ([1, 2, 14, 15].getD 1 0) (va_cpy (τ ([1, 2, 14, 15].getD 3 0)) (τ ([1, 2, 14, 15].getD 1 0)) 0 0 60)) ([1, 2, 14, 15].getD 0 0) (upd (τ ([1, 2, 14, 15].getD 0 0)) 3 (τ ([1, 2, 14, 15].getD 2 0) 3))) _ _) _ _) = M
  have m24 : put [5, 6, 7, 8, 9, 10, 18, 19, 20, 21, 22, 23] M (C4 (sub [5, 6, 7, 8, 9, 10, 18, 19, 20, 21, 22, 23] M)) 24 = τ 24 := by subst hM; rfl
  rw [m24, if_pos hb]
  simp only [bd]
  rw [if_pos (show inc (0 : Int32) (0 : Int32) (24 : Int32) 24 24 = true by decide)]
  subst hM
  refine ⟨_, rfl, ?_, rfl, rfl, rfl, rfl, rfl, rfl, ⟨rfl, rfl, rfl, rfl, rfl⟩, rfl, rfl⟩
  intro a ha
  rw [upA_o _ _ (by omega), upA_o _ _ (by omega), upA_o _ _ (by omega), upA_o _ _ (by omega), upA_o _ _ (by omega)]
  have hx : ∀ c, c ∈ [0, 1, 2, 3, 4, 5] → c < 13 := by decide
  have := copy_off (Q := [5, 6, 7, 8, 9, 10, 18, 19, 20, 21, 22, 23]) (M := [5, 6, 7, 8, 9, 10]) (by decide)
  rw [this _ a (fun h => by
    have : ∀ c, c ∈ [5, 6, 7, 8, 9, 10] → c < 13 := by decide
    have := this a h
    omega)]
  rw [upA_o _ _ (show a ≠ [3, 4, 16, 17].getD 0 0 from show a ≠ 3 by omega), upA_o _ _ (show a ≠ [3, 4, 16, 17].getD 1 0 from show a ≠ 4 by omega),
    upA_o _ _ (show a ≠ [1, 2, 14, 15].getD 0 0 from show a ≠ 1 by omega), upA_o _ _ (show a ≠ [1, 2, 14, 15].getD 1 0 from show a ≠ 2 by omega)]
/-- a row of the class, and the reference's row s -/
theorem RR.lk {q : Nat} {ρ ρ' ν ν' : Mem} (h : RR q ρ ν) (h5 : ρ' 0 5 = ρ 0 5) (h6 : ρ' 0 6 = ρ 0 6)
    (hc : ∀ c, 1 ≤ c → c < 6 → ∀ k, k < 9 → ρ' c k = ρ c k) (a : ρ' 6 3 = ρ 6 3) (b : ∀ j, j < 60 → ρ' 8 j = ρ 8 j) (c : ρ' 10 3 = ρ 10 3) (d : ∀ j, j < 60 → ρ' 12 j = ρ 12 j)
    (hn : ∀ i, i < 303 → ν' 1 i = ν 1 i) : RR q ρ' ν' := by
  refine ⟨?_, ?_, ?_, ?_, ?_, ?_, ?_, ?_, ?_, ?_, ?_, ?_, ?_, ?_, ?_, ?_, ?_⟩
  · intro k hk; rw [hc 1 (by omega) (by omega) k hk, hn _ (by omega)]; exact h.kd k hk
  · intro k hk; rw [hc 2 (by omega) (by omega) k hk, hn _ (by omega)]; exact h.mm k hk
  · intro k hk; rw [hc 3 (by omega) (by omega) k hk, hn _ (by omega)]; exact h.po k hk
  · intro k hk; rw [hc 4 (by omega) (by omega) k hk, hn _ (by omega)]; exact h.le k hk
  · intro k hk; rw [hc 5 (by omega) (by omega) k hk, hn _ (by omega)]; exact h.ou k hk
  · rw [h5, hn _ (by omega)]; exact h.sun
  · rw [h6]; exact h.mi
  · rw [hn _ (by omega)]; exact h.mj
  · intro k hk; rw [hc 1 (by omega) (by omega) k hk]; exact h.kb k hk
  · intro k hk; rw [hc 2 (by omega) (by omega) k hk]; exact h.mb k hk
  · intro k hk; rw [hc 3 (by omega) (by omega) k hk]; exact h.pb k hk
  · intro p hp
    obtain ⟨k, hk, e⟩ := h.pp p hp
    exact ⟨k, hk, by rw [hc 3 (by omega) (by omega) k hk]; exact e⟩
  · intro k hk; rw [hc 4 (by omega) (by omega) k hk]; exact h.lb k hk
  · intro k hk; rw [hc 5 (by omega) (by omega) k hk]; exact h.ob k hk
  · rw [h5]; exact h.sb
  · exact h.w0.rg a b (fun i _ _ => hn i (by omega))
  · exact h.w1.rg c d (fun i _ _ => hn i (by omega))
theorem Extra.lk {f t w s f' t' w' s' : Nat → Int32} (e : Extra f t w s) (h5 : f' 5 = f 5) (h6 : f' 6 = f 6) (h7 : f' 7 = f 7) (ht : ∀ j, j < 60 → t' j = t j) (hw : ∀ j, j < 24 → w' j = w j)
    (h : ∀ i, i < 387 → s' i = s i) : Extra f' t' w' s' := by
  obtain ⟨⟨a, a1, a2, a3⟩, ⟨b, b1, b2, b3⟩, c, d, e⟩ := e
  refine ⟨⟨a, a1, by rw [h5]; exact a2, by rw [h 2 (by omega)]; exact a3⟩, ⟨b, b1, by rw [h6]; exact b2, by rw [h 3 (by omega)]; exact b3⟩, by rw [h7, h 4 (by omega)]; exact c, fun j hj => ?_, fun j hj => ?_⟩
  · rw [h (303 + j) (by omega), ht j hj]; exact d j hj
  · rw [h (363 + j) (by omega), hw j hj]; exact e j hj
theorem cpy_lt {f g : Nat → Int32} {n j : Nat} (h : j < n) : va_cpy f g 0 0 n j = f j := by
  unfold va_cpy
  rw [if_pos ⟨by omega, by omega⟩, show 0 + (j - 0) = j by omega]
theorem fit_dec : ∀ v, v < 256 → fits .byte (.int (if v < 128 then nI v else nI v - 256)) = true := by decide +kernel
theorem tape_fit {f t w s : Nat → Int32} (e : Extra f t w s) : incb t (0 : Int32) (0 : Int32) (60 : Int32) 60 60 = true := by
  unfold incb
  rw [show inc (0 : Int32) (0 : Int32) (60 : Int32) 60 60 = true by decide, Bool.true_and, List.all_eq_true]
  intro i hi
  have hi' : i < 60 := by
    have := List.mem_range.mp hi
    rw [show (60 : Int32).toNatClampNeg = 60 by decide] at this
    exact this
  rw [show (0 : Int32).toNatClampNeg = 0 by decide, Nat.zero_add]
  obtain ⟨v, v1, -, v3⟩ := e.2.2.2.1 i hi'
  rw [v3]
  exact fit_dec v v1
theorem carry_L : ∀ (r x : Nat) (b : Mem) (f : Nat), x + r = 387 → r < f →
    f_X12_carry_L2 f b (nI x) = some (upA b 1 (fun i => if x ≤ i ∧ i < 387 then b 0 i else b 1 i)) := by
  intro r
  induction r with
  | zero =>
    intro x b f hx hf
    obtain ⟨f, rfl⟩ : ∃ f', f = f' + 1 := ⟨f - 1, by omega⟩
    have e : (387 : Int32) ≤ nI x := by rw [show (387 : Int32) = nI 387 from rfl, nI_leI (by omega) (by omega)]; omega
    rw [f_X12_carry_L2, if_pos e]
    refine congrArg some (funext fun a => ?_)
    by_cases h : a = 1
    · subst h; rw [upA_s]; funext i; rw [if_neg (by omega)]
    · rw [upA_o _ _ h]
  | succ r ih =>
    intro x b f hx hf
    obtain ⟨f, rfl⟩ : ∃ f', f = f' + 1 := ⟨f - 1, by omega⟩
    have e : ¬ (387 : Int32) ≤ nI x := by rw [show (387 : Int32) = nI 387 from rfl, nI_leI (by omega) (by omega)]; omega
    have i1 := in_k (show x < 387 by omega) (show 387 ≤ 100000 by omega)
    rw [f_X12_carry_L2, if_neg e, if_pos i1, if_pos i1, cl_I (by omega), show nI x + (1 : Int32) = nI (x + 1) from nI_1 x]
    simp only [bd]
    rw [ih (x + 1) _ f (by omega) (by omega), upA_2, upA_s, upA_o _ _ (show (0 : Nat) ≠ 1 by decide)]
    refine congrArg some (congrArg (upA b 1) (funext fun k => ?_))
    by_cases hk : k = x
    · subst hk; rw [upd_s, if_neg (by omega), if_pos ⟨by omega, by omega⟩]
    · rw [upd_o _ _ hk]
      by_cases hc : x ≤ k ∧ k < 387
      · rw [if_pos hc, if_pos ⟨by omega, hc.2⟩]
      · rw [if_neg hc, if_neg (fun h => hc ⟨by omega, h.2⟩)]
theorem carry_ok (b : Mem) : f_X12_carry b = some (upA b 1 (fun i => if i < 387 then b 0 i else b 1 i)) := by
  unfold f_X12_carry
  rw [show (0 : Int32) = nI 0 from rfl, carry_L 387 0 b fuel0 (by omega) (fuel_ge 387 (by omega))]
  refine congrArg some (congrArg (upA b 1) (funext fun i => ?_))
  by_cases h : i < 387
  · rw [if_pos ⟨by omega, h⟩, if_pos h]
  · rw [if_neg (fun q => h q.2), if_neg h]
abbrev QJ : List Nat := [4, 15, 17, 19, 21, 29, 30, 31, 32, 33, 34, 5, 6, 1, 7, 9, 11, 13, 23, 24, 25, 26, 27, 28, 2, 3]
abbrev QR : List Nat := [1, 7, 9, 11, 13, 23, 24, 25, 26, 27, 28, 2, 3, 4, 15, 17, 19, 21, 29, 30, 31, 32, 33, 34, 5, 6]
theorem QJ_ap : Apart QJ 26 := by decide
theorem QR_ap : Apart QR 26 := by decide
/-- a memory that a scene's copy has changed at its places alone -/
theorem scene_off {Q : List Nat} {M : List Nat} {μ τ' : Mem} (hd : ∀ j, j < 13 → Q.getD j 0 ∈ M) (h : ∀ a, 13 ≤ a → τ' a = sub Q μ a) : Off M μ (put Q μ τ') := by
  intro c hc
  unfold put
  cases e : ixO Q 0 c with
  | none => rfl
  | some j =>
    have e2 := (ixO_get e).2
    rw [Nat.sub_zero] at e2
    have : 13 ≤ j := by
      rcases Nat.lt_or_ge j 13 with hj | hj
      · exact absurd (e2 ▸ hd j hj) hc
      · exact hj
    show τ' j = μ c
    rw [h j this]
    show μ (Q.getD j 0) = μ c
    rw [e2]
theorem NR.pl {μ μ' ν ν' : Mem} (h : NR μ ν) (hp : ∀ j, j < 22 → μ' (PN.getD j 0) = μ (PN.getD j 0)) (b : ν' 1 = ν 1) : NR μ' ν' := by
  obtain ⟨⟨q, hq, r⟩, z⟩ := h
  have s : ∀ j, j < 22 → sub PN μ' j = sub PN μ j := hp
  refine ⟨⟨q, hq, r.like (by rw [s 0 (by decide)]) (by rw [s 0 (by decide)]) (fun c h1 h2 k hk => by rw [s c (by omega)]) (by rw [s 6 (by decide)]) (s 8 (by decide)) (by rw [s 10 (by decide)]) (s 12 (by decide)) b⟩,
    z.like (fun k _ => by rw [s 4 (by decide)]) (fun k _ => by rw [s 5 (by decide)])⟩
theorem image_op {μ ν : Mem} (h : Rel μ ν) : Sim RA (f_X11_image μ) (f_X12_image ν) := by
  obtain ⟨τ', e, ho, t0, t1, t2, t3, t4, t5, ⟨t6, t7, t8, t9, t10⟩, t11, t12⟩ := copy5 (τ := sub QJ μ) (tape_fit h.ex)
  have pa := fun j hj => put_at QJ_ap μ τ' (j := j) hj
  have off : Off [4, 15, 17, 19, 21, 29, 30, 31, 32, 33, 34, 5, 6] μ (put QJ μ τ') := scene_off (by decide) ho
  unfold f_X11_image f_X12_image
  rw [show f_X5_copyFrom (sub [4, 15, 17, 19, 21, 29, 30, 31, 32, 33, 34, 5, 6, 1, 7, 9, 11, 13, 23, 24, 25, 26, 27, 28, 2, 3] μ) = _ from e, carry_ok]
  simp only [Option.bind_some, bd]
  rw [put_upA (P := [1, 2]) (n := 2) (by decide) _ _ (by omega), put_self]
  have m9 : put QJ μ τ' 0 9 = μ 0 9 := by rw [off 0 (by decide)]
  have e3 : upA ν ([1, 2].getD 1 0) (fun i => if i < 387 then sub [1, 2] ν 0 i else sub [1, 2] ν 1 i) = upA ν 2 (fun i => if i < 387 then ν 1 i else ν 2 i) := rfl
  rw [e3]
  generalize hM : put QJ μ τ' = M
  rw [hM] at pa off m9
  generalize hN : upA ν 2 (fun i => if i < 387 then ν 1 i else ν 2 i) = N
  have n2 : ∀ i, i < 387 → N 2 i = ν 1 i := fun i hi => by subst hN; rw [upA_s, if_pos hi]
  have no : ∀ a, a ≠ 2 → N a = ν a := fun a ha => by subst hN; exact upA_o _ _ ha
  have p4 : M 4 = _ := (pa 0 (by omega)).trans t0
  have p15 : M 15 = _ := (pa 1 (by omega)).trans t1
  have p17 : M 17 = _ := (pa 2 (by omega)).trans t2
  have p19 : M 19 = _ := (pa 3 (by omega)).trans t3
  have p21 : M 21 = _ := (pa 4 (by omega)).trans t4
  have p29 : M 29 = _ := (pa 5 (by omega)).trans t5
  have p30 : M 30 = _ := (pa 6 (by omega)).trans t6
  have p31 : M 31 = _ := (pa 7 (by omega)).trans t7
  have p32 : M 32 = _ := (pa 8 (by omega)).trans t8
  have p33 : M 33 = _ := (pa 9 (by omega)).trans t9
  have p34 : M 34 = _ := (pa 10 (by omega)).trans t10
  have p5 : M 5 = _ := (pa 11 (by omega)).trans t11
  have p6 : M 6 = _ := (pa 12 (by omega)).trans t12
  refine Sim.pure ⟨?_, ?_⟩
  · show upA M 0 (upd (M 0) 9 (M 0 9 + 1)) 0 9 = upA N 0 (upd (N 0) 3 (N 0 3 + 1)) 0 3
    rw [upA_s, upd_s, upA_s, upd_s, m9, no 0 (by decide), h.im]
  · show Rel (upA M 0 (upd (M 0) 9 (M 0 9 + 1))) (upA N 0 (upd (N 0) 3 (N 0 3 + 1)))
    obtain ⟨⟨q, hq, r⟩, z⟩ := h.nr
    refine ⟨?_, ?_, ?_, fun _ => ⟨⟨⟨q, hq, r.lk (ν' := fun _ => N 2) ?_ ?_ ?_ ?_ ?_ ?_ ?_ (fun i hi => n2 i (by omega))⟩, z.like ?_ ?_⟩, ?_⟩, ?_, ?_⟩
    · refine h.nr.pl (fun j hj => ?_) (by rw [upA_o _ _ (by decide), no 1 (by decide)])
      have d : ∀ j, j < 22 → PN.getD j 0 ≠ 0 ∧ PN.getD j 0 ∉ [4, 15, 17, 19, 21, 29, 30, 31, 32, 33, 34, 5, 6] := by decide
      rw [upA_o _ _ (d j hj).1, off _ (d j hj).2]
    · rw [upA_o _ _ (by decide), upA_o _ _ (by decide), upA_o _ _ (by decide), upA_o _ _ (by decide), no 1 (by decide), off 1 (by decide), off 2 (by decide), off 3 (by decide)]
      exact h.ex
    · rw [upA_s, upd_s, upA_s, upd_s, m9, no 0 (by decide), h.im]
    · show M 29 5 = μ 23 5
      rw [p29, upd_o _ _ (by decide), upd_s]; rfl
    · show M 29 6 = μ 23 6
      rw [p29, upd_s]; rfl
    · intro c c1 c6 k hk
      have : c = 1 ∨ c = 2 ∨ c = 3 ∨ c = 4 ∨ c = 5 := by omega
      rcases this with h | h | h | h | h <;> subst h
      · show M 30 k = μ 24 k
        rw [p30, cpy_lt hk]; rfl
      · show M 31 k = μ 25 k
        rw [p31, cpy_lt hk]; rfl
      · show M 32 k = μ 26 k
        rw [p32, cpy_lt hk]; rfl
      · show M 33 k = μ 27 k
        rw [p33, cpy_lt hk]; rfl
      · show M 34 k = μ 28 k
        rw [p34, cpy_lt hk]; rfl
    · show M 15 3 = μ 7 3
      rw [p15, upd_s]; rfl
    · intro j hj
      show M 17 j = μ 9 j
      rw [p17, cpy_lt hj]; rfl
    · show M 19 3 = μ 11 3
      rw [p19, upd_s]; rfl
    · intro j hj
      show M 21 j = μ 13 j
      rw [p21, cpy_lt hj]; rfl
    · intro k hk
      show M 33 k = μ 27 k
      rw [p33, cpy_lt hk]; rfl
    · intro k hk
      show M 34 k = μ 28 k
      rw [p34, cpy_lt hk]; rfl
    · refine h.ex.lk ?_ ?_ ?_ ?_ ?_ (fun i hi => ?_)
      · show M 4 5 = μ 1 5
        rw [p4, upd_o _ _ (by decide), upd_o _ _ (by decide), upd_s]; rfl
      · show M 4 6 = μ 1 6
        rw [p4, upd_o _ _ (by decide), upd_s]; rfl
      · show M 4 7 = μ 1 7
        rw [p4, upd_s]; rfl
      · intro j hj
        show M 5 j = μ 2 j
        rw [p5, cpy_lt hj]; rfl
      · intro j hj
        show M 6 j = μ 3 j
        rw [p6, cpy_lt hj]; rfl
      · rw [upA_o _ _ (by decide)]; exact n2 i hi
    · intro i hi
      rw [upA_o _ _ (show (82 : Nat) ≠ 0 by decide), upA_o _ _ (show (83 : Nat) ≠ 0 by decide), upA_o _ _ (show 78 + i ≠ 0 by omega), upA_o _ _ (show (10 : Nat) ≠ 0 by decide), upA_o _ _ (show (11 : Nat) ≠ 0 by decide), upA_o _ _ (show (12 : Nat) ≠ 0 by decide),
        off 82 (by decide), off 83 (by decide), no 10 (by decide), no 11 (by decide), no 12 (by decide), off (78 + i) (by
          have : i = 0 ∨ i = 1 ∨ i = 2 ∨ i = 3 := by omega
          rcases this with h | h | h | h <;> subst h <;> decide)]
      exact h.sh i hi
    · obtain ⟨⟨a, a1, a2⟩, ⟨b, b1, b2⟩, b3, b4⟩ := h.tr
      refine ⟨⟨a, a1, ?_⟩, ⟨b, b1, ?_⟩, by rw [upA_o _ _ (by decide), off 7 (by decide)]; exact b3, by rw [upA_o _ _ (by decide), off 11 (by decide)]; exact b4⟩
      · rw [upA_o _ _ (by decide), off 74 (by decide)]; exact a2
      · rw [upA_s, upd_o _ _ (by decide), no 0 (by decide)]; exact b2
theorem restore_op {μ ν : Mem} (h : Rel μ ν) : Sim RA (f_X11_restore μ) (f_X12_restore ν) := by
  unfold f_X11_restore f_X12_restore
  rw [← h.im]
  by_cases hz : μ 0 9 = 0
  · rw [if_pos hz, if_pos hz]
    exact h.err (c := 2) (by omega)
  · rw [if_neg hz, if_neg hz]
    obtain ⟨⟨⟨q, hq, r⟩, z⟩, ex⟩ := h.kp hz
    obtain ⟨τ', e, ho, t0, t1, t2, t3, t4, t5, ⟨t6, t7, t8, t9, t10⟩, t11, t12⟩ := copy5 (τ := sub QR μ) (tape_fit ex)
    have pa := fun j hj => put_at QR_ap μ τ' (j := j) hj
    have off : Off [1, 7, 9, 11, 13, 23, 24, 25, 26, 27, 28, 2, 3] μ (put QR μ τ') := scene_off (by decide) ho
    rw [show f_X5_copyFrom (sub [1, 7, 9, 11, 13, 23, 24, 25, 26, 27, 28, 2, 3, 4, 15, 17, 19, 21, 29, 30, 31, 32, 33, 34, 5, 6] μ) = _ from e, carry_ok]
    simp only [Option.bind_some, bd, i0, if_true, c0]
    rw [put_upA (P := [2, 1]) (n := 2) (by decide) _ _ (by omega), put_self]
    have e3 : upA ν ([2, 1].getD 1 0) (fun i => if i < 387 then sub [2, 1] ν 0 i else sub [2, 1] ν 1 i) = upA ν 1 (fun i => if i < 387 then ν 2 i else ν 1 i) := rfl
    rw [e3]
    generalize hM : put QR μ τ' = M
    rw [hM] at pa off
    generalize hN : upA ν 1 (fun i => if i < 387 then ν 2 i else ν 1 i) = N
    have n2 : ∀ i, i < 387 → N 1 i = ν 2 i := fun i hi => by subst hN; rw [upA_s, if_pos hi]
    have no : ∀ a, a ≠ 1 → N a = ν a := fun a ha => by subst hN; exact upA_o _ _ ha
    have p1 : M 1 = _ := (pa 0 (by omega)).trans t0
    have p7 : M 7 = _ := (pa 1 (by omega)).trans t1
    have p9 : M 9 = _ := (pa 2 (by omega)).trans t2
    have p11 : M 11 = _ := (pa 3 (by omega)).trans t3
    have p13 : M 13 = _ := (pa 4 (by omega)).trans t4
    have p23 : M 23 = _ := (pa 5 (by omega)).trans t5
    have p24 : M 24 = _ := (pa 6 (by omega)).trans t6
    have p25 : M 25 = _ := (pa 7 (by omega)).trans t7
    have p26 : M 26 = _ := (pa 8 (by omega)).trans t8
    have p27 : M 27 = _ := (pa 9 (by omega)).trans t9
    have p28 : M 28 = _ := (pa 10 (by omega)).trans t10
    have p2 : M 2 = _ := (pa 11 (by omega)).trans t11
    have p3 : M 3 = _ := (pa 12 (by omega)).trans t12
    have rr : RR q (sub PN M) N := by
      refine r.lk ?_ ?_ ?_ ?_ ?_ ?_ ?_ (fun i hi => n2 i (by omega))
      · show M 23 5 = μ 29 5
        rw [p23, upd_o _ _ (by decide), upd_s]; rfl
      · show M 23 6 = μ 29 6
        rw [p23, upd_s]; rfl
      · intro c c1 c6 k hk
        have : c = 1 ∨ c = 2 ∨ c = 3 ∨ c = 4 ∨ c = 5 := by omega
        rcases this with h | h | h | h | h <;> subst h
        · show M 24 k = μ 30 k
          rw [p24, cpy_lt hk]; rfl
        · show M 25 k = μ 31 k
          rw [p25, cpy_lt hk]; rfl
        · show M 26 k = μ 32 k
          rw [p26, cpy_lt hk]; rfl
        · show M 27 k = μ 33 k
          rw [p27, cpy_lt hk]; rfl
        · show M 28 k = μ 34 k
          rw [p28, cpy_lt hk]; rfl
      · show M 7 3 = μ 15 3
        rw [p7, upd_s]; rfl
      · intro j hj
        show M 9 j = μ 17 j
        rw [p9, cpy_lt hj]; rfl
      · show M 11 3 = μ 19 3
        rw [p11, upd_s]; rfl
      · intro j hj
        show M 13 j = μ 21 j
        rw [p13, cpy_lt hj]; rfl
    have zz : Set0 (sub PN M) := by
      refine z.like ?_ ?_
      · intro k hk
        show M 27 k = μ 33 k
        rw [p27, cpy_lt hk]; rfl
      · intro k hk
        show M 28 k = μ 34 k
        rw [p28, cpy_lt hk]; rfl
    refine Sim.pure ⟨?_, ?_⟩
    · show M 23 6 = N 1 0
      rw [show M 23 6 = sub PN M 0 6 from rfl, rr.mi, rr.mj]
    · show Rel M N
      refine h.keep ⟨⟨q, hq, rr⟩, zz⟩ ?_ (off 0 (by decide)) (by rw [no 0 (by decide)]) (fun c hc => off c ?_) (fun c hc => no c ?_) (by rw [no 0 (by decide)]) (by rw [p7, upd_o _ _ (by decide)]; rfl) (by rw [p11, upd_o _ _ (by decide)]; rfl)
      · refine ex.lk ?_ ?_ ?_ ?_ ?_ (fun i hi => n2 i hi)
        · show M 1 5 = μ 4 5
          rw [p1, upd_o _ _ (by decide), upd_o _ _ (by decide), upd_s]; rfl
        · show M 1 6 = μ 4 6
          rw [p1, upd_o _ _ (by decide), upd_s]; rfl
        · show M 1 7 = μ 4 7
          rw [p1, upd_s]; rfl
        · intro j hj
          show M 2 j = μ 5 j
          rw [p2, cpy_lt hj]; rfl
        · intro j hj
          show M 3 j = μ 6 j
          rw [p3, cpy_lt hj]; rfl
      · have : ∀ c, c ∈ [4, 5, 6, 29, 30, 31, 32, 33, 34, 15, 17, 19, 21, 78, 79, 80, 81, 82, 83, 74] → c ∉ [1, 7, 9, 11, 13, 23, 24, 25, 26, 27, 28, 2, 3] := by decide
        exact this c hc
      · have : ∀ c, c ∈ [2, 10, 11, 12] → c ≠ 1 := by decide
        exact this c hc
