/-- where the places of P lie, and that they are apart -/
abbrev Apart (P : List Nat) (n : Nat) : Prop := P.length = n ∧ ixO P 0 0 = none ∧ ∀ j, j < n → ixO P 0 (P.getD j 0) = some j
theorem getD_big {P : List Nat} {j : Nat} (h : P.length ≤ j) : P.getD j 0 = 0 := by
  rw [List.getD_eq_getElem?_getD, List.getElem?_eq_none h]; rfl
theorem put_at {P : List Nat} {n : Nat} (hP : Apart P n) (μ a : Mem) {j : Nat} (hj : j < n) : put P μ a (P.getD j 0) = a j := by
  unfold put
  rw [hP.2.2 j hj]
theorem put_no {P : List Nat} (μ a : Mem) {c : Nat} (h : ixO P 0 c = none) : put P μ a c = μ c := by
  unfold put
  rw [h]
theorem sub_putG {P : List Nat} {n : Nat} (hP : Apart P n) {L : List Nat} (hL : ∀ a, a ∈ L → a < n) {μ a : Mem} (h : Off L (sub P μ) a) : sub P (put P μ a) = a := by
  funext j
  show put P μ a (P.getD j 0) = a j
  by_cases hj : j < n
  · exact put_at hP μ a hj
  · have hb : P.getD j 0 = 0 := getD_big (by have := hP.1; omega)
    rw [hb, h j (fun e => absurd (hL j e) hj), put_no _ _ hP.2.1]
    show μ 0 = μ (P.getD j 0)
    rw [hb]
theorem put_offG {P L M : List Nat} (hd : ∀ j, j ∈ L → P.getD j 0 ∈ M) {μ a : Mem} (h : Off L (sub P μ) a) : Off M μ (put P μ a) := by
  intro c hc
  unfold put
  cases e : ixO P 0 c with
  | none => rfl
  | some j =>
    have e2 := (ixO_get e).2
    rw [Nat.sub_zero] at e2
    have : j ∉ L := fun hj => hc (by rw [← e2]; exact hd j hj)
    show a j = μ c
    rw [h j this]
    show μ (P.getD j 0) = μ c
    rw [e2]
theorem RR.like {q : Nat} {ρ ρ' ν ν' : Mem} (h : RR q ρ ν) (h5 : ρ' 0 5 = ρ 0 5) (h6 : ρ' 0 6 = ρ 0 6)
    (hc : ∀ c, 1 ≤ c → c < 6 → ∀ k, k < 9 → ρ' c k = ρ c k) (a : ρ' 6 3 = ρ 6 3) (b : ρ' 8 = ρ 8) (c : ρ' 10 3 = ρ 10 3) (d : ρ' 12 = ρ 12) (hn : ν' 1 = ν 1) : RR q ρ' ν' := by
  refine ⟨?_, ?_, ?_, ?_, ?_, ?_, ?_, ?_, ?_, ?_, ?_, ?_, ?_, ?_, ?_, ?_, ?_⟩
  · intro k hk; rw [hc 1 (by omega) (by omega) k hk, hn]; exact h.kd k hk
  · intro k hk; rw [hc 2 (by omega) (by omega) k hk, hn]; exact h.mm k hk
  · intro k hk; rw [hc 3 (by omega) (by omega) k hk, hn]; exact h.po k hk
  · intro k hk; rw [hc 4 (by omega) (by omega) k hk, hn]; exact h.le k hk
  · intro k hk; rw [hc 5 (by omega) (by omega) k hk, hn]; exact h.ou k hk
  · rw [h5, hn]; exact h.sun
  · rw [h6]; exact h.mi
  · rw [hn]; exact h.mj
  · intro k hk; rw [hc 1 (by omega) (by omega) k hk]; exact h.kb k hk
  · intro k hk; rw [hc 2 (by omega) (by omega) k hk]; exact h.mb k hk
  · intro k hk; rw [hc 3 (by omega) (by omega) k hk]; exact h.pb k hk
  · intro p hp
    obtain ⟨k, hk, e⟩ := h.pp p hp
    exact ⟨k, hk, by rw [hc 3 (by omega) (by omega) k hk]; exact e⟩
  · intro k hk; rw [hc 4 (by omega) (by omega) k hk]; exact h.lb k hk
  · intro k hk; rw [hc 5 (by omega) (by omega) k hk]; exact h.ob k hk
  · rw [h5]; exact h.sb
  · exact h.w0.frame a b (fun i _ => by rw [hn])
  · exact h.w1.frame c d (fun i _ => by rw [hn])
theorem Set0.like {ρ ρ' : Mem} (z : Set0 ρ) (h4 : ∀ k, k < 9 → ρ' 4 k = ρ 4 k) (h5 : ∀ k, k < 9 → ρ' 5 k = ρ 5 k) : Set0 ρ' := by
  intro k hk
  rw [h4 k hk, h5 k hk]
  exact z k hk
/-- a row copied into another -/
def C4 (τ : Mem) : Mem := fun a => if a = 0 then upd (upd (τ 0) 5 (τ 6 5)) 6 (τ 6 6) else if a < 6 then va_cpy (τ (6 + a)) (τ a) 0 0 9 else τ a
theorem C4_0 (τ : Mem) : C4 τ 0 = upd (upd (τ 0) 5 (τ 6 5)) 6 (τ 6 6) := rfl
theorem C4_c (τ : Mem) {c k : Nat} (h1 : 1 ≤ c) (h2 : c < 6) (hk : k < 9) : C4 τ c k = τ (6 + c) k := by
  unfold C4 va_cpy
  rw [if_neg (by omega), if_pos h2]
  rw [if_pos ⟨by omega, by omega⟩, show 0 + (k - 0) = k by omega]
theorem C4_o (τ : Mem) {c : Nat} (h1 : 6 ≤ c) : C4 τ c = τ c := by
  unfold C4
  rw [if_neg (by omega), if_neg (by omega)]
theorem copy4 (τ : Mem) : f_X4_copyFrom τ = some (C4 τ) := by
  have i : inc (0 : Int32) (0 : Int32) (9 : Int32) 9 9 = true := by decide
  unfold f_X4_copyFrom
  simp only [bd]
  rw [if_pos i, if_pos i, if_pos i, if_pos i, if_pos i]
  refine congrArg some (funext fun a => ?_)
  have z : (0 : Int32).toNatClampNeg = 0 := by decide
  have n : (9 : Int32).toNatClampNeg = 9 := by decide
  rw [z, n]
  unfold C4
  by_cases h0 : a = 0
  · subst h0; rfl
  · rw [if_neg h0]
    by_cases h1 : a = 1
    · subst h1; rfl
    · by_cases h2 : a = 2
      · subst h2; rfl
      · by_cases h3 : a = 3
        · subst h3; rfl
        · by_cases h4 : a = 4
          · subst h4; rfl
          · by_cases h5 : a = 5
            · subst h5; rfl
            · rw [if_neg (by omega), upA_o _ _ h0, upA_o _ _ h0, upA_o _ _ h5, upA_o _ _ h4, upA_o _ _ h3, upA_o _ _ h2, upA_o _ _ h1]
theorem C4_off (τ : Mem) : Off [0, 1, 2, 3, 4, 5] τ (C4 τ) := by
  intro a ha
  refine C4_o τ ?_
  rcases Nat.lt_or_ge a 6 with h | h
  · exfalso; apply ha
    have : a = 0 ∨ a = 1 ∨ a = 2 ∨ a = 3 ∨ a = 4 ∨ a = 5 := by omega
    rcases this with h | h | h | h | h | h <;> subst h <;> decide
  · exact h
/-- the lists of a copy: P where to, S where from, Q both for the call -/
abbrev CL (P S Q : List Nat) : Prop := Apart Q 12 ∧ (∀ j, j < 6 → P.getD j 0 = Q.getD j 0) ∧ (∀ j, j < 6 → S.getD j 0 = Q.getD (6 + j) 0) ∧
  ∀ j, j < 22 → 6 ≤ j → P.getD j 0 = S.getD j 0 ∧ ixO Q 0 (P.getD j 0) = none
theorem copy_at {P S Q : List Nat} (c : CL P S Q) (μ : Mem) {j : Nat} (hj : j < 6) : sub P (put Q μ (C4 (sub Q μ))) j = C4 (sub Q μ) j := by
  show put Q μ (C4 (sub Q μ)) (P.getD j 0) = _
  rw [c.2.1 j hj, put_at c.1 _ _ (by omega)]
theorem copy_src {P S Q : List Nat} (c : CL P S Q) (μ : Mem) {j : Nat} (hj : j < 6) : sub Q μ (6 + j) = sub S μ j := by
  show μ (Q.getD (6 + j) 0) = μ (S.getD j 0)
  rw [c.2.2.1 j hj]
theorem copy_rest {P S Q : List Nat} (c : CL P S Q) (μ : Mem) {j : Nat} (h1 : 6 ≤ j) (h2 : j < 22) : sub P (put Q μ (C4 (sub Q μ))) j = sub S μ j := by
  show put Q μ (C4 (sub Q μ)) (P.getD j 0) = μ (S.getD j 0)
  rw [put_no _ _ (c.2.2.2 j h2 h1).2, (c.2.2.2 j h2 h1).1]
theorem copy_c {P S Q : List Nat} (cl : CL P S Q) (μ : Mem) {c k : Nat} (h1 : 1 ≤ c) (h2 : c < 6) (hk : k < 9) :
    sub P (put Q μ (C4 (sub Q μ))) c k = sub S μ c k := by
  rw [copy_at cl μ h2, C4_c _ h1 h2 hk, copy_src cl μ h2]
theorem RR.copy {q : Nat} {μ ν : Mem} {P S Q : List Nat} (c : CL P S Q) (r : RR q (sub S μ) ν) : RR q (sub P (put Q μ (C4 (sub Q μ)))) ν := by
  have e0 : sub Q μ 6 = sub S μ 0 := copy_src (j := 0) c μ (by omega)
  refine r.like ?_ ?_ (fun a h1 h2 k hk => copy_c c μ h1 h2 hk) ?_ ?_ ?_ ?_ rfl
  · rw [copy_at c μ (by omega), C4_0, upd_o _ _ (by omega), upd_s, e0]
  · rw [copy_at c μ (by omega), C4_0, upd_s, e0]
  · rw [copy_rest c μ (by omega) (by omega)]
  · rw [copy_rest c μ (by omega) (by omega)]
  · rw [copy_rest c μ (by omega) (by omega)]
  · rw [copy_rest c μ (by omega) (by omega)]
theorem Set0.copy {μ : Mem} {P S Q : List Nat} (c : CL P S Q) (z : Set0 (sub S μ)) : Set0 (sub P (put Q μ (C4 (sub Q μ)))) :=
  z.like (fun k hk => copy_c c μ (by omega) (by omega) hk) (fun k hk => copy_c c μ (by omega) (by omega) hk)
theorem copy_off {Q : List Nat} {M : List Nat} (hd : ∀ j, j ∈ [0, 1, 2, 3, 4, 5] → Q.getD j 0 ∈ M) (μ : Mem) : Off M μ (put Q μ (C4 (sub Q μ))) :=
  put_offG hd (C4_off _)
/-- the reference's row laid down, and laid back -/
def LD (ν : Mem) : Mem := upA ν 3 (fun i => if i < 53 then ν 1 i else ν 3 i)
def LB (ν : Mem) : Mem := upA ν 1 (fun i => if i < 53 then ν 3 i else ν 1 i)
theorem down_L : ∀ (r x : Nat) (ν : Mem) (f : Nat), x + r = 53 → r < f →
    f_X12_layDown_L2 f ν 0 (nI x) = some (upA ν 3 (fun i => if x ≤ i ∧ i < 53 then ν 1 i else ν 3 i)) := by
  intro r
  induction r with
  | zero =>
    intro x ν f hx hf
    obtain ⟨f, rfl⟩ : ∃ f', f = f' + 1 := ⟨f - 1, by omega⟩
    unfold f_X12_layDown_L2
    have e : (53 : Int32) ≤ nI x := by rw [show (53 : Int32) = nI 53 from rfl, nI_leI (by omega) (by omega)]; omega
    rw [if_pos e]
    refine congrArg some (funext fun a => ?_)
    by_cases h : a = 3
    · subst h; rw [upA_s]; funext i; rw [if_neg (by omega)]
    · rw [upA_o _ _ h]
  | succ r ih =>
    intro x ν f hx hf
    obtain ⟨f, rfl⟩ : ∃ f', f = f' + 1 := ⟨f - 1, by omega⟩
    unfold f_X12_layDown_L2
    have e : ¬ (53 : Int32) ≤ nI x := by rw [show (53 : Int32) = nI 53 from rfl, nI_leI (by omega) (by omega)]; omega
    have p : (53 : Int32) * 0 + nI x = nI x := by rw [Int32.mul_zero, Int32.zero_add]
    rw [if_neg e, p, if_pos ((inb_iff (by omega)).mpr (by omega)), if_pos ((inb_iff (by omega)).mpr (by omega)), cl_I (by omega), show nI x + (1 : Int32) = nI (x + 1) from nI_1 x]
    simp only [bd]
    rw [ih (x + 1) _ f (by omega) (by omega)]
    refine congrArg some (funext fun a => ?_)
    by_cases h : a = 3
    · subst h; rw [upA_s, upA_s]; funext i
      rw [upA_o _ _ (by decide), upA_s]
      by_cases hi : i = x
      · subst hi; rw [upd_s, if_neg (by omega), if_pos (by omega)]
      · rw [upd_o _ _ hi]
        by_cases h2 : x ≤ i ∧ i < 53
        · rw [if_pos (by omega), if_pos h2]
        · rw [if_neg (by omega), if_neg h2]
    · rw [upA_o _ _ h, upA_o _ _ h, upA_o _ _ h]
theorem down_ok (ν : Mem) : f_X12_layDown ν 0 = some (LD ν) := by
  unfold f_X12_layDown
  have := down_L 53 0 ν fuel0 (by omega) (fuel_ge 53 (by omega))
  rw [show (0 : Int32) = nI 0 from rfl] at *
  rw [this]
  refine congrArg some ?_
  unfold LD
  refine congrArg (upA ν 3) (funext fun i => ?_)
  by_cases h : i < 53
  · rw [if_pos (by omega), if_pos h]
  · rw [if_neg (by omega), if_neg h]
theorem back_L : ∀ (r x : Nat) (ν : Mem) (f : Nat), x + r = 53 → r < f →
    f_X12_layBack_L2 f ν 0 (nI x) = some (upA ν 1 (fun i => if x ≤ i ∧ i < 53 then ν 3 i else ν 1 i)) := by
  intro r
  induction r with
  | zero =>
    intro x ν f hx hf
    obtain ⟨f, rfl⟩ : ∃ f', f = f' + 1 := ⟨f - 1, by omega⟩
    unfold f_X12_layBack_L2
    have e : (53 : Int32) ≤ nI x := by rw [show (53 : Int32) = nI 53 from rfl, nI_leI (by omega) (by omega)]; omega
    rw [if_pos e]
    refine congrArg some (funext fun a => ?_)
    by_cases h : a = 1
    · subst h; rw [upA_s]; funext i; rw [if_neg (by omega)]
    · rw [upA_o _ _ h]
  | succ r ih =>
    intro x ν f hx hf
    obtain ⟨f, rfl⟩ : ∃ f', f = f' + 1 := ⟨f - 1, by omega⟩
    unfold f_X12_layBack_L2
    have e : ¬ (53 : Int32) ≤ nI x := by rw [show (53 : Int32) = nI 53 from rfl, nI_leI (by omega) (by omega)]; omega
    have p : (53 : Int32) * 0 + nI x = nI x := by rw [Int32.mul_zero, Int32.zero_add]
    rw [if_neg e, p, if_pos ((inb_iff (by omega)).mpr (by omega)), if_pos ((inb_iff (by omega)).mpr (by omega)), cl_I (by omega), show nI x + (1 : Int32) = nI (x + 1) from nI_1 x]
    simp only [bd]
    rw [ih (x + 1) _ f (by omega) (by omega)]
    refine congrArg some (funext fun a => ?_)
    by_cases h : a = 1
    · subst h; rw [upA_s, upA_s]; funext i
      rw [upA_o _ _ (by decide), upA_s]
      by_cases hi : i = x
      · subst hi; rw [upd_s, if_neg (by omega), if_pos (by omega)]
      · rw [upd_o _ _ hi]
        by_cases h2 : x ≤ i ∧ i < 53
        · rw [if_pos (by omega), if_pos h2]
        · rw [if_neg (by omega), if_neg h2]
    · rw [upA_o _ _ h, upA_o _ _ h, upA_o _ _ h]
theorem back_ok (ν : Mem) : f_X12_layBack ν 0 = some (LB ν) := by
  unfold f_X12_layBack
  have := back_L 53 0 ν fuel0 (by omega) (fuel_ge 53 (by omega))
  rw [show (0 : Int32) = nI 0 from rfl] at *
  rw [this]
  refine congrArg some ?_
  unfold LB
  refine congrArg (upA ν 1) (funext fun i => ?_)
  by_cases h : i < 53
  · rw [if_pos (by omega), if_pos h]
  · rw [if_neg (by omega), if_neg h]
theorem LD_1 (ν : Mem) : LD ν 1 = ν 1 := upA_o _ _ (by decide)
theorem RR.down {q : Nat} {ρ ν : Mem} (r : RR q ρ ν) : RR q ρ (LD ν) := r.like rfl rfl (fun _ _ _ _ _ => rfl) rfl rfl rfl rfl (LD_1 ν)
/-- b holds ν's row laid down, and else only what a row's work changes -/
abbrev Held (ν b : Mem) : Prop := Off [1, 3, 6, 7, 8] ν b ∧ (∀ i, i < 53 → b 3 i = ν 1 i) ∧ ∀ i, 53 ≤ i → b 1 i = ν 1 i
theorem Held.down (ν : Mem) : Held ν (LD ν) := by
  refine ⟨Off.upA (by decide), fun i hi => ?_, fun i hi => ?_⟩
  · unfold LD; rw [upA_s, if_pos hi]
  · rw [LD_1]
theorem Held.back {ν b : Mem} (h : Held ν b) : LB b 1 = ν 1 ∧ Off [3, 6, 7, 8] ν (LB b) := by
  have e : LB b 1 = ν 1 := by
    unfold LB
    rw [upA_s]
    funext i
    by_cases hi : i < 53
    · rw [if_pos hi, h.2.1 i hi]
    · rw [if_neg hi, h.2.2 i (by omega)]
  refine ⟨e, fun a ha => ?_⟩
  by_cases h1 : a = 1
  · subst h1; exact e
  · unfold LB
    rw [upA_o _ _ h1]
    exact h.1 a (fun q => by
      rcases List.mem_cons.mp q with q | q
      · exact h1 q
      · exact ha q)
/-- laid back, but still laid down, too -/
theorem Held.again {ν b : Mem} (h : Held ν b) : Held ν (LB b) := by
  refine ⟨fun a ha => h.back.2 a (fun q => ha (List.mem_cons_of_mem _ q)), fun i hi => ?_, fun i _ => by rw [h.back.1]⟩
  unfold LB
  rw [upA_o _ _ (by decide)]
  exact h.2.1 i hi
theorem Held.go {ν b c ρ ρ' : Mem} (h : Held ν b) (f : Fr ρ b ρ' c) : Held ν c := by
  refine ⟨h.1.trans (f.c.mono (by decide)), fun i hi => ?_, fun i hi => ?_⟩
  · rw [f.c 3 (by decide)]; exact h.2.1 i hi
  · rw [f.d i (by omega) (by omega)]; exact h.2.2 i hi
