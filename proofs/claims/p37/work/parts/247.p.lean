/-! rounds: rows kept from one round to the next -/
abbrev S0 : List Nat := [41, 42, 43, 44, 45, 46, 7, 8, 9, 10, 11, 12, 13, 14, 66, 67, 68, 69, 70, 71, 72, 73]
abbrev S1 : List Nat := [47, 48, 49, 50, 51, 52, 7, 8, 9, 10, 11, 12, 13, 14, 66, 67, 68, 69, 70, 71, 72, 73]
abbrev S2 : List Nat := [53, 54, 55, 56, 57, 58, 7, 8, 9, 10, 11, 12, 13, 14, 66, 67, 68, 69, 70, 71, 72, 73]
abbrev S3 : List Nat := [59, 60, 61, 62, 63, 64, 7, 8, 9, 10, 11, 12, 13, 14, 66, 67, 68, 69, 70, 71, 72, 73]
abbrev Q0 : List Nat := [41, 42, 43, 44, 45, 46, 23, 24, 25, 26, 27, 28]
abbrev Q1 : List Nat := [47, 48, 49, 50, 51, 52, 41, 42, 43, 44, 45, 46]
abbrev Q2 : List Nat := [53, 54, 55, 56, 57, 58, 47, 48, 49, 50, 51, 52]
abbrev Q3 : List Nat := [59, 60, 61, 62, 63, 64, 53, 54, 55, 56, 57, 58]
def SL : Nat → List Nat | 0 => S0 | 1 => S1 | 2 => S2 | _ => S3
def QL : Nat → List Nat | 0 => Q0 | 1 => Q1 | 2 => Q2 | _ => Q3
/-- what work on step j changes -/
def DL (j : Nat) : List Nat := [41 + 6 * j, 42 + 6 * j, 43 + 6 * j, 44 + 6 * j, 45 + 6 * j, 46 + 6 * j, 8, 12]
theorem SL_ap : ∀ j, j < 4 → Apart (SL j) 22 := by decide
theorem CL_0 : CL S0 PN Q0 := by decide
theorem CL_S : ∀ j, j < 3 → CL (SL (j + 1)) (SL j) (QL (j + 1)) := by decide
theorem SL_D : ∀ j, j < 4 → ∀ i, i ∈ [0, 4, 5, 7, 11] → (SL j).getD i 0 ∈ DL j := by decide
theorem QL_D : ∀ j, j < 4 → ∀ i, i ∈ [0, 1, 2, 3, 4, 5] → (QL j).getD i 0 ∈ DL j := by decide
def farB (j k i : Nat) : Bool := decide (j = k) || decide (i = 7) || decide (i = 11) || !(DL k).contains ((SL j).getD i 0)
theorem far_ok : ∀ j, j < 4 → ∀ k, k < 4 → ∀ i, i < 22 → farB j k i = true := by decide
theorem SL_far {j k i : Nat} (hj : j < 4) (hk : k < 4) (h : j ≠ k) (hi : i < 22) (hn : i ∉ [7, 11]) : (SL j).getD i 0 ∉ DL k := by
  have := far_ok j hj k hk i hi
  unfold farB at this
  rw [decide_eq_false h, decide_eq_false (show ¬ i = 7 from fun e => hn (by rw [e]; decide)), decide_eq_false (show ¬ i = 11 from fun e => hn (by rw [e]; decide))] at this
  intro hm
  rw [List.contains_iff_mem.mpr hm] at this
  exact absurd this (by decide)
theorem DL_LA : ∀ j, j < 4 → ∀ a, a ∈ DL j → a ∈ LA := by decide
theorem SL_len : ∀ j, j < 4 → (SL j).length = 22 := by decide
theorem DL_0 : ∀ j, j < 4 → (0 : Nat) ∉ DL j := by decide
/-- the reference's flies so far: p the number with their posts as its figures by nine -/
def RUN : Nat → Nat → Mem → Mem → Nat → Prop
  | 0, _, b, c, s => c = b ∧ s = 0
  | j + 1, p, b, c, s => ∃ c0 s0 k, RUN j (p / 9) b c0 s0 ∧ f_X12_flyAt c0 (nI (p % 9)) = some (c, nI k) ∧ s = s0 + k
/-- the row ρ is as it is behind the j flies of p, from g on (with C who stood, by ρ0) -/
def VAL (q C : Nat) (ρ0 : Mem) (g : Nat → Int32) (j p : Nat) (ρ : Mem) : Prop := OutOK q ρ0 ρ ∧ ∀ b, b 1 = g → ∃ c s, RUN j p b c s ∧ RR q ρ c ∧ Set0 ρ ∧ Off [1, 6, 7] b c ∧ (∀ i, 53 ≤ i → c 1 i = g i) ∧ s + cnt ρ = C
theorem cnt_k {ρ a : Mem} (h : ∀ k, k < 9 → a 5 k = ρ 5 k) : cnt a = cnt ρ := by
  unfold cnt cS
  rw [h 0 (by omega), h 1 (by omega), h 2 (by omega), h 3 (by omega), h 4 (by omega), h 5 (by omega), h 6 (by omega), h 7 (by omega), h 8 (by omega)]
theorem OutOK.k {q : Nat} {ρ0 ρ a : Mem} (o : OutOK q ρ0 ρ) (h : ∀ k, k < 9 → a 5 k = ρ 5 k) : OutOK q ρ0 a := fun k hk => by
  rw [h k hk]; exact o k hk
theorem VAL.keep {q C j p : Nat} {ρ0 ρ ρ' : Mem} {g : Nat → Int32} (v : VAL q C ρ0 g j p ρ) (h : Off [7, 11] ρ ρ') : VAL q C ρ0 g j p ρ' := by
  have e5 : ρ' 5 = ρ 5 := h 5 (by decide)
  have e4 : ρ' 4 = ρ 4 := h 4 (by decide)
  refine ⟨v.1.k (fun k _ => by rw [e5]), fun b hb => ?_⟩
  obtain ⟨c, s, run, r, z, o, hi, hs⟩ := v.2 b hb
  exact ⟨c, s, run, r.scr h (Off.refl _ _), z.like (fun k _ => by rw [e4]) (fun k _ => by rw [e5]), o, hi, by rw [cnt_5 e5]; exact hs⟩
theorem VAL.step {q C j p : Nat} {ρ0 μ : Mem} {g : Nat → Int32} (hq : q ≤ 9999) {A B Q : List Nat} (cl : CL B A Q) (v : VAL q C ρ0 g j (p / 9) (sub A μ)) :
    ∃ a y, f_X4_flyAt (sub B (put Q μ (C4 (sub Q μ)))) (nI (p % 9)) = some (a, y) ∧ Off [0, 4, 5, 7, 11] (sub B (put Q μ (C4 (sub Q μ)))) a ∧ VAL q C ρ0 g (j + 1) p a := by
  have h9 : p % 9 < 9 := Nat.mod_lt _ (by omega)
  have c5 : ∀ k, k < 9 → sub B (put Q μ (C4 (sub Q μ))) 5 k = sub A μ 5 k := fun k hk => copy_c cl μ (by omega) (by omega) hk
  obtain ⟨c0, s0, run, r, z, o, hi, hs⟩ := v.2 (fun _ => g) rfl
  obtain ⟨⟨a, y⟩, ⟨c1, w⟩, e1, e2, -, r1, f1, z1, o1, -⟩ := fly_ok2 (by omega) (r.copy cl) (z.copy cl) h9
  refine ⟨a, y, e1, f1.a, (v.1.k c5).trans o1, ?_⟩
  intro b hb
  obtain ⟨c0', s0', run', r', z', o', hi', hs'⟩ := v.2 b hb
  obtain ⟨⟨a', y'⟩, ⟨c1', w'⟩, e1', e2', ey, r2, f2, z2, o2, n, hn, en, cn⟩ := fly_ok2 (by omega) (r'.copy cl) (z'.copy cl) h9
  have : (a', y') = (a, y) := Option.some.inj (e1'.symm.trans e1)
  obtain ⟨rfl, rfl⟩ := Prod.mk.inj this
  have en' : y' = nI n := en
  have ew : w' = y' := ey.symm
  have cn' : n + cnt a' = cnt (sub B (put Q μ (C4 (sub Q μ)))) := cn
  rw [cnt_k c5] at cn'
  refine ⟨c1', s0' + n, ⟨c0', s0', n, run', by rw [e2', ew, en'], rfl⟩, r2, z2, o'.trans f2.c, fun i hi2 => ?_, by omega⟩
  have f2d : ∀ i, i ≠ 0 → ¬ (8 ≤ i ∧ i < 53 ∧ (i - 8) % 5 ≥ 3) → c1' 1 i = c0' 1 i := f2.d
  rw [f2d i (by omega) (by omega)]
  exact hi' i hi2
