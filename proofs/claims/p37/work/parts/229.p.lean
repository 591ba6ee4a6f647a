theorem Sim.bindl {α β γ : Type} {R : α → β → Prop} {S : γ → β → Prop} {x : Option α} {y : Option β} {f : α → Option γ}
    (h : Sim R x y) (k : ∀ a b, R a b → Sim S (f a) (some b)) : Sim S (x.bind f) y := by
  obtain ⟨a, b, rfl, rfl, hr⟩ := h
  exact k a b hr
abbrev PH : List Nat := [35, 36, 37, 38, 39, 40, 7, 8, 9, 10, 11, 12, 13, 14, 66, 67, 68, 69, 70, 71, 72, 73]
abbrev QA : List Nat := [35, 36, 37, 38, 39, 40, 23, 24, 25, 26, 27, 28]
abbrev PK : List Nat := [29, 30, 31, 32, 33, 34, 15, 16, 17, 18, 19, 20, 21, 22, 66, 67, 68, 69, 70, 71, 72, 73]
theorem PH_ap : Apart PH 22 := by decide
theorem PN_ap : Apart PN 22 := by decide
theorem CL_A : CL PH PN QA := by decide
/-- what is kept by an image beside the row -/
abbrev Extra (f t w s : Nat → Int32) : Prop :=
  (∃ n, n ≤ 60 ∧ f 5 = nI n ∧ s 2 = nI n) ∧ (∃ n, n ≤ 24 ∧ f 6 = nI n ∧ s 3 = nI n) ∧ f 7 = s 4 ∧
  (∀ j, j < 60 → ∃ v, v < 256 ∧ s (303 + j) = nI v ∧ t j = if v < 128 then nI v else nI v - 256) ∧ ∀ j, j < 24 → w j = s (363 + j)
abbrev NRP (P : List Nat) (μ ν : Mem) : Prop := (∃ q, q ≤ 9999 ∧ RR q (sub P μ) ν) ∧ Set0 (sub P μ)
/-- the sheets -/
abbrev ShR (μ ν : Mem) : Prop := ∀ i, i < 4 → μ 82 i = ν 10 i ∧ (μ 82 i = 0 ∨ μ 82 i = 8 ∨ μ 82 i = 16 ∨ μ 82 i = 32) ∧
  (∃ n, n ≤ 24 ∧ μ 83 i = nI n ∧ ν 11 i = nI n) ∧ ∀ j, j < 24 → μ (78 + i) j = ν 12 (24 * i + j)
abbrev TrR (μ ν : Mem) : Prop := (∃ n, n ≤ 30 ∧ μ 74 3 = nI n) ∧ (∃ n, n ≤ 30 ∧ ν 0 14 = nI n) ∧ μ 7 0 = 115 ∧ μ 11 0 = 100
/-- class and reference agree in all but errors and trace -/
def Rel (μ ν : Mem) : Prop :=
  NR μ ν ∧ Extra (μ 1) (μ 2) (μ 3) (ν 1) ∧ μ 0 9 = ν 0 3 ∧ (¬ μ 0 9 = 0 → NRP PK μ (fun _ => ν 2) ∧ Extra (μ 4) (μ 5) (μ 6) (ν 2)) ∧ ShR μ ν ∧ TrR μ ν
theorem Rel.nr {μ ν : Mem} (h : Rel μ ν) : NR μ ν := h.1
theorem Rel.ex {μ ν : Mem} (h : Rel μ ν) : Extra (μ 1) (μ 2) (μ 3) (ν 1) := h.2.1
theorem Rel.im {μ ν : Mem} (h : Rel μ ν) : μ 0 9 = ν 0 3 := h.2.2.1
theorem Rel.kp {μ ν : Mem} (h : Rel μ ν) : ¬ μ 0 9 = 0 → NRP PK μ (fun _ => ν 2) ∧ Extra (μ 4) (μ 5) (μ 6) (ν 2) := h.2.2.2.1
theorem Rel.sh {μ ν : Mem} (h : Rel μ ν) : ShR μ ν := h.2.2.2.2.1
theorem Rel.tr {μ ν : Mem} (h : Rel μ ν) : TrR μ ν := h.2.2.2.2.2
theorem NRP.same {P : List Nat} {μ μ' ν ν' : Mem} (h : NRP P μ ν) (a : sub P μ' = sub P μ) (b : ν' 1 = ν 1) : NRP P μ' ν' := by
  obtain ⟨⟨q, hq, r⟩, z⟩ := h
  refine ⟨⟨q, hq, ?_⟩, ?_⟩
  · rw [a]; exact r.like rfl rfl (fun _ _ _ _ _ => rfl) rfl rfl rfl rfl b
  · rw [a]; exact z
/-- the rest beside the row: what it is made of stays -/
theorem Rel.keep {μ ν μ' ν' : Mem} (h : Rel μ ν) (n : NR μ' ν') (e : Extra (μ' 1) (μ' 2) (μ' 3) (ν' 1)) (h0 : μ' 0 = μ 0) (h3 : ν' 0 3 = ν 0 3)
    (hk : ∀ c, c ∈ [4, 5, 6, 29, 30, 31, 32, 33, 34, 15, 17, 19, 21, 78, 79, 80, 81, 82, 83, 74] → μ' c = μ c)
    (hn : ∀ c, c ∈ [2, 10, 11, 12] → ν' c = ν c) (t : ν' 0 14 = ν 0 14) (k7 : μ' 7 0 = μ 7 0) (k11 : μ' 11 0 = μ 11 0) : Rel μ' ν' := by
  refine ⟨n, e, ?_, ?_, ?_, ?_⟩
  · rw [h0, h3]; exact h.im
  · intro hz
    rw [h0] at hz
    obtain ⟨⟨⟨q, hq, r⟩, z⟩, ex⟩ := h.kp hz
    have g : ∀ c, c ∈ [29, 30, 31, 32, 33, 34] → μ' c = μ c := fun c hc => hk c (by
      have : ∀ c, c ∈ [29, 30, 31, 32, 33, 34] → c ∈ [4, 5, 6, 29, 30, 31, 32, 33, 34, 15, 17, 19, 21, 78, 79, 80, 81, 82, 83, 74] := by decide
      exact this c hc)
    have s0 : sub PK μ' 0 = sub PK μ 0 := hk 29 (by decide)
    have s1 : sub PK μ' 1 = sub PK μ 1 := hk 30 (by decide)
    have s2 : sub PK μ' 2 = sub PK μ 2 := hk 31 (by decide)
    have s3 : sub PK μ' 3 = sub PK μ 3 := hk 32 (by decide)
    have s4 : sub PK μ' 4 = sub PK μ 4 := hk 33 (by decide)
    have s5 : sub PK μ' 5 = sub PK μ 5 := hk 34 (by decide)
    have s6 : sub PK μ' 6 = sub PK μ 6 := hk 15 (by decide)
    have s8 : sub PK μ' 8 = sub PK μ 8 := hk 17 (by decide)
    have s10 : sub PK μ' 10 = sub PK μ 10 := hk 19 (by decide)
    have s12 : sub PK μ' 12 = sub PK μ 12 := hk 21 (by decide)
    refine ⟨⟨⟨q, hq, r.like (by rw [s0]) (by rw [s0]) ?_ (by rw [s6]) s8 (by rw [s10]) s12 (hn 2 (by decide))⟩, z.like (fun k _ => by rw [s4]) (fun k _ => by rw [s5])⟩, ?_⟩
    · intro c h1 h2 k hk
      have : c = 1 ∨ c = 2 ∨ c = 3 ∨ c = 4 ∨ c = 5 := by omega
      rcases this with h | h | h | h | h <;> subst h
      · rw [s1]
      · rw [s2]
      · rw [s3]
      · rw [s4]
      · rw [s5]
    · rw [hk 4 (by decide), hk 5 (by decide), hk 6 (by decide), hn 2 (by decide)]; exact ex
  · intro i hi
    rw [hk 82 (by decide), hk 83 (by decide), hn 10 (by decide), hn 11 (by decide), hn 12 (by decide), hk (78 + i) (by
      have : i = 0 ∨ i = 1 ∨ i = 2 ∨ i = 3 := by omega
      rcases this with h | h | h | h <;> subst h <;> decide)]
    exact h.sh i hi
  · rw [TrR, hk 74 (by decide), t, k7, k11]; exact h.tr
/-- a call's answers are equal, and all agrees behind it -/
def RA (a b : Mem × Int32) : Prop := a.2 = b.2 ∧ Rel a.1 b.1
theorem Rel.ft {μ ν μ' ν' : Mem} (h : Rel μ ν) (n : NR μ' ν') (f : FT μ ν μ' ν') : Rel μ' ν' := by
  refine h.keep n ?_ (f.a 0 (by decide)) (by rw [f.b 0 (by decide)]) (fun c hc => f.a c ?_) (fun c hc => f.b c ?_) (by rw [f.b 0 (by decide)]) (by rw [f.a 7 (by decide)]) (by rw [f.a 11 (by decide)])
  · obtain ⟨⟨a, a1, a2, a3⟩, ⟨b, b1, b2, b3⟩, c, d, e⟩ := h.ex
    rw [f.a 1 (by decide), f.a 2 (by decide), f.a 3 (by decide)]
    refine ⟨⟨a, a1, a2, by rw [f.c 2 (by omega) (by omega)]; exact a3⟩, ⟨b, b1, b2, by rw [f.c 3 (by omega) (by omega)]; exact b3⟩, by rw [f.c 4 (by omega) (by omega)]; exact c, fun j hj => ?_, fun j hj => ?_⟩
    · rw [f.d (303 + j) (by omega)]; exact d j hj
    · rw [f.d (363 + j) (by omega)]; exact e j hj
  · have : ∀ c, c ∈ [4, 5, 6, 29, 30, 31, 32, 33, 34, 15, 17, 19, 21, 78, 79, 80, 81, 82, 83, 74] → c ∉ [8, 12, 23, 24, 25, 26, 27, 28, 84] := by decide
    exact this c hc
  · have : ∀ c, c ∈ [2, 10, 11, 12] → c ∉ [1, 4, 6, 7] := by decide
    exact this c hc
theorem Rel.or {μ ν : Mem} (h : Rel μ ν) {a b : Mem × Int32} (o : OR μ ν a b) : RA a b := ⟨o.1, h.ft o.2.1 o.2.2⟩
theorem Rel.sim {μ ν : Mem} (h : Rel μ ν) {x y : Option (Mem × Int32)} (o : Sim (OR μ ν) x y) : Sim RA x y := o.mono fun _ _ k => h.or k
/-- what a look ahead may change -/
abbrev LA : List Nat := [8, 12, 35, 36, 37, 38, 39, 40, 41, 42, 43, 44, 45, 46, 47, 48, 49, 50, 51, 52, 53, 54, 55, 56, 57, 58, 59, 60, 61, 62, 63, 64]
abbrev FA (μ ν μ' ν' : Mem) : Prop := Off LA μ μ' ∧ Off [3, 6, 7, 8] ν ν'
theorem NR.fa {μ ν μ' ν' : Mem} (h : NR μ ν) (f : FA μ ν μ' ν') : NR μ' ν' := by
  obtain ⟨⟨q, hq, r⟩, z⟩ := h
  have s : ∀ j, j ∈ [0, 1, 2, 3, 4, 5, 6, 8, 10, 12] → sub PN μ' j = sub PN μ j := fun j hj => f.1 _ (by
    have : ∀ j, j ∈ [0, 1, 2, 3, 4, 5, 6, 8, 10, 12] → PN.getD j 0 ∉ LA := by decide
    exact this j hj)
  refine ⟨⟨q, hq, r.like (by rw [s 0 (by decide)]) (by rw [s 0 (by decide)]) ?_ (by rw [s 6 (by decide)]) (s 8 (by decide)) (by rw [s 10 (by decide)]) (s 12 (by decide)) (f.2 1 (by decide))⟩,
    z.like (fun k _ => by rw [s 4 (by decide)]) (fun k _ => by rw [s 5 (by decide)])⟩
  intro c h1 h2 k hk
  have : c = 1 ∨ c = 2 ∨ c = 3 ∨ c = 4 ∨ c = 5 := by omega
  rcases this with h | h | h | h | h <;> subst h
  · rw [s 1 (by decide)]
  · rw [s 2 (by decide)]
  · rw [s 3 (by decide)]
  · rw [s 4 (by decide)]
  · rw [s 5 (by decide)]
theorem Rel.fa {μ ν μ' ν' : Mem} (h : Rel μ ν) (f : FA μ ν μ' ν') : Rel μ' ν' := by
  refine h.keep (h.nr.fa f) ?_ (f.1 0 (by decide)) (by rw [f.2 0 (by decide)]) (fun c hc => f.1 c ?_) (fun c hc => f.2 c ?_) (by rw [f.2 0 (by decide)]) (by rw [f.1 7 (by decide)]) (by rw [f.1 11 (by decide)])
  · rw [f.1 1 (by decide), f.1 2 (by decide), f.1 3 (by decide), f.2 1 (by decide)]; exact h.ex
  · have : ∀ c, c ∈ [4, 5, 6, 29, 30, 31, 32, 33, 34, 15, 17, 19, 21, 78, 79, 80, 81, 82, 83, 74] → c ∉ LA := by decide
    exact this c hc
  · have : ∀ c, c ∈ [2, 10, 11, 12] → c ∉ [3, 6, 7, 8] := by decide
    exact this c hc
theorem FA.trans {μ ν a b c d : Mem} (h : FA μ ν a b) (k : FA a b c d) : FA μ ν c d := ⟨h.1.trans k.1, h.2.trans k.2⟩
/-- the ahead row's work, and the reference's with its row laid down -/
abbrev AH (q : Nat) (μ ν a b : Mem) : Prop := RR q (sub PH a) b ∧ Off LA μ a ∧ Held ν b ∧ Set0 (sub PH a)
theorem AH.fa {q : Nat} {μ ν a b : Mem} (h : AH q μ ν a b) : FA μ ν a (LB b) := ⟨h.2.1, h.2.2.1.back.2⟩
theorem put_A {μ a : Mem} (h : Off [0, 4, 5, 7, 11] (sub PH μ) a) : Off LA μ (put PH μ a) := put_offG (by decide) h
theorem sub_A {μ a : Mem} (h : Off [0, 4, 5, 7, 11] (sub PH μ) a) : sub PH (put PH μ a) = a := sub_putG PH_ap (by decide) h
/-- the ahead row made -/
def CA (μ : Mem) : Mem := put QA μ (C4 (sub QA μ))
theorem copyA (μ : Mem) : ((f_X4_copyFrom (sub QA μ)).bind fun q => some (put QA μ q)) = some (CA μ) := by
  rw [copy4]; rfl
theorem AH.mk {q : Nat} {μ ν : Mem} (r : RR q (sub PN μ) ν) (z : Set0 (sub PN μ)) : AH q μ ν (CA μ) (LD ν) := by
  refine ⟨(r.copy CL_A).down, ?_, Held.down ν, z.copy CL_A⟩
  exact copy_off (by decide) μ
/-- a row's work goes on ahead -/
theorem AH.go {q q' : Nat} {μ ν a b ρ c : Mem} (h : AH q μ ν a b) (r : RR q' ρ c) (f : Fr (sub PH a) b ρ c) (z : Set0 ρ) : AH q' μ ν (put PH a ρ) c := by
  refine ⟨?_, h.2.1.trans (put_A f.a), h.2.2.1.go f, ?_⟩
  · rw [sub_A f.a]; exact r
  · rw [sub_A f.a]; exact z
theorem look_ok {q n : Nat} {μ ν : Mem} (hq : q ≤ 9999) (r : RR q (sub PN μ) ν) (z : Set0 (sub PN μ)) (hn : n ≤ 200) :
    Sim (fun a b => AH (q + n) μ ν a b.1) (f_X11_lookAhead μ (nI n)) ((f_X12_layDown ν 0).bind fun q6 => f_X12_go q6 (nI n)) := by
  unfold f_X11_lookAhead
  rw [copy4, down_ok]
  simp only [Option.bind_some, bd]
  have h := AH.mk r z
  refine Sim.bindl (pass_ok (n := n) (by omega) (by omega) h.1) ?_
  rintro ⟨a, y⟩ ⟨b, w⟩ ⟨e, r1, f1, z1⟩
  exact Sim.pure (h.go r1 f1 (z1 h.2.2.2))
