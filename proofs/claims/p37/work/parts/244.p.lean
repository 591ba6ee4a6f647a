theorem AH.mk2 {q : Nat} {μ b : Mem} (r : RR q (sub PN μ) b) (z : Set0 (sub PN μ)) (hb : Held b b) : AH q μ b (CA μ) b :=
  ⟨r.copy CL_A, copy_off (by decide) μ, hb, z.copy CL_A⟩
theorem Held.self {ν b : Mem} (h : Held ν b) : Held (LB b) (LB b) := by
  refine ⟨Off.refl _ _, fun i hi => ?_, fun _ _ => rfl⟩
  rw [LB_o _ (by decide), h.2.1 i hi, h.back.1]
theorem Held.down2 (ν : Mem) : Held (LD ν) (LD ν) := by
  refine ⟨Off.refl _ _, fun i hi => ?_, fun _ _ => rfl⟩
  rw [(Held.down ν).2.1 i hi, LD_1]
theorem Rel.down {μ ν : Mem} (h : Rel μ ν) : Rel μ (LD ν) := h.fa ⟨Off.refl _ _, Off.upA (by decide)⟩
/-- bits -/
theorem bsum_bit (ρ : Mem) {x : Nat} (hx : x < 9) : bsum ρ 9 / 2 ^ x % 2 = cS ρ x := by
  have a0 := cS_le ρ 0
  have a1 := cS_le ρ 1
  have a2 := cS_le ρ 2
  have a3 := cS_le ρ 3
  have a4 := cS_le ρ 4
  have a5 := cS_le ρ 5
  have a6 := cS_le ρ 6
  have a7 := cS_le ρ 7
  have a8 := cS_le ρ 8
  have e : bsum ρ 9 = cS ρ 0 + 2 * cS ρ 1 + 4 * cS ρ 2 + 8 * cS ρ 3 + 16 * cS ρ 4 + 32 * cS ρ 5 + 64 * cS ρ 6 + 128 * cS ρ 7 + 256 * cS ρ 8 := by
    simp only [bsum]
    omega
  rw [e]
  have : x = 0 ∨ x = 1 ∨ x = 2 ∨ x = 3 ∨ x = 4 ∨ x = 5 ∨ x = 6 ∨ x = 7 ∨ x = 8 := by omega
  rcases this with h | h | h | h | h | h | h | h | h <;> subst h <;> omega
theorem bit_dec : ∀ x, x < 9 → ∀ s, s < 512 → (((nI s >>> (nI x &&& 31)) &&& (1 : Int32)) = 1 ↔ s / 2 ^ x % 2 = 1) := by decide +kernel
theorem bit_k (ρ : Mem) {x : Nat} (hx : x < 9) : (((nI (bsum ρ 9) >>> (nI x &&& 31)) &&& (1 : Int32)) = 1 ↔ ¬ stB ρ x = 0) := by
  rw [bit_dec x hx _ (bsum_lt ρ 9), bsum_bit ρ hx, stB_cS]
  have := cS_le ρ x
  omega
theorem sub5_FA {μ ν μ' ν' : Mem} (f : FA μ ν μ' ν') {k : Nat} : sub PN μ' 5 k = sub PN μ 5 k := by
  show μ' 28 k = μ 28 k
  rw [f.1 28 (by decide)]
theorem bsum_eq {ρ ρ' : Mem} (h : ∀ k, ρ' 5 k = ρ 5 k) : ∀ x, bsum ρ' x = bsum ρ x := by
  intro x
  induction x with
  | zero => rfl
  | succ x ih =>
    unfold bsum
    rw [ih]
    unfold cS
    rw [h]
theorem whose_L (x1 : Int32) {s : Nat} : ∀ (r x : Nat) (μ b : Mem) (acc : Int32) (f g : Nat), x + r = 9 → r < f → r < g → Rel μ b → Held b b → s = bsum (sub PN μ) 9 →
    Sim RA (f_X11_whose_L33 f μ x1 (nI s) acc (nI x)) (f_X12_whose_L32 g b x1 (nI s) acc (nI x)) := by
  intro r
  induction r with
  | zero =>
    intro x μ b acc f g hx hf hg R hb hs
    obtain ⟨f, rfl⟩ : ∃ f', f = f' + 1 := ⟨f - 1, by omega⟩
    obtain ⟨g, rfl⟩ : ∃ g', g = g' + 1 := ⟨g - 1, by omega⟩
    have e : (9 : Int32) ≤ nI x := by rw [show (9 : Int32) = nI 9 from rfl, nI_leI (by omega) (by omega)]; omega
    rw [f_X11_whose_L33, f_X12_whose_L32, if_pos e, if_pos e]
    exact Sim.pure ⟨rfl, R⟩
  | succ r ih =>
    intro x μ b acc f g hx hf hg R hb hs
    obtain ⟨f, rfl⟩ : ∃ f', f = f' + 1 := ⟨f - 1, by omega⟩
    obtain ⟨g, rfl⟩ : ∃ g', g = g' + 1 := ⟨g - 1, by omega⟩
    have hx9 : x < 9 := by omega
    obtain ⟨⟨q, hq, r'⟩, z⟩ := id R.nr
    have e : ¬ (9 : Int32) ≤ nI x := by rw [show (9 : Int32) = nI 9 from rfl, nI_leI (by omega) (by omega)]; omega
    rw [f_X11_whose_L33, f_X12_whose_L32, if_neg e, if_neg e, st4 hx9 (r'.ob x hx9)]
    simp only [Option.bind_some, bd, put_self]
    have bk := bit_k (sub PN μ) hx9
    rw [← hs] at bk
    by_cases hst : stB (sub PN μ) x = 0
    · rw [if_pos hst, if_neg (fun h => bk.mp h hst), nI_1]
      exact ih (x + 1) μ b acc f g (by omega) (by omega) (by omega) R hb hs
    · rw [if_neg hst, if_pos (bk.mpr hst), copy4]
      have ah := AH.mk2 r' z hb
      simp only [Option.bind_some]
      show Sim RA ((f_X4_pokeOne (sub PH (CA μ)) (nI x)).bind _) _
      refine (poke_ok (by omega) ah.1 hx9).bind ?_
      rintro ⟨a, y⟩ ⟨c, w⟩ ⟨e, r1, f1, z1, -⟩
      have k := ah.go r1 f1 z1
      have r1' : RR q a c := r1
      show Sim RA ((f_X4_bits (sub PH (put PH (CA μ) a))).bind _) ((f_X12_standSet c).bind _)
      rw [sub_A f1.a, bits_ok r1', set_ok r1']
      simp only [Option.bind_some]
      have eput : put PH (put PH (CA μ) a) a = put PH (CA μ) a := by
        have := put_self PH (put PH (CA μ) a)
        rw [sub_A f1.a] at this
        exact this
      have fin : ∀ acc', Sim RA (f_X11_whose_L33 f (put PH (put PH (CA μ) a) a) x1 (nI s) acc' (nI x + 1)) (f_X12_whose_L32 g (LB c) x1 (nI s) acc' (nI x + 1)) := by
        intro acc'
        rw [eput, nI_1]
        refine ih (x + 1) _ _ acc' f g (by omega) (by omega) (by omega) (R.fa k.fa) k.2.2.1.self ?_
        rw [hs]
        exact (bsum_eq (fun _ => sub5_FA k.fa) 9).symm
      by_cases hc : nI s &&& (nI (bsum a 9) ^^^ (-1 : Int32)) = x1
      · rw [if_pos hc, if_pos hc]
        unfold f_X12_whose_L78
        rw [back_ok]
        exact fin _
      · rw [if_neg hc, if_neg hc]
        unfold f_X12_whose_L78
        rw [back_ok, or_0]
        exact fin _
theorem n511 : (511 : Int32) = nI 511 := by decide
theorem in511 (x : Int32) : (f_X11_within x (0 : Int32) (511 : Int32) = some 0) ∨ (f_X11_within x (0 : Int32) (511 : Int32) = some 1 ∧ ∃ k, k ≤ 511 ∧ x = nI k) := by
  rw [n511]
  rcases in_lh x (l := 0) (n := 511) (by omega) (by omega) with e | ⟨e, u, -, u2, h⟩
  · exact Or.inl e
  · exact Or.inr ⟨e, u, u2, h⟩
theorem w_1 {q : Nat} {μ ν : Mem} (r : RR q (sub PN μ) ν) (K : Mem → Int32 → Option (Mem × Int32)) (L : Option (Mem × Int32)) (h : Sim RA (K μ (nI (bsum (sub PN μ) 9))) L) : Sim RA ((f_X4_bits (sub PN μ)).bind fun q2 => K (put PN μ q2.1) q2.2) L := by
  rw [bits_ok r]
  rw [Option.bind_some]
  rw [put_self]
  exact h
theorem w_2 {q : Nat} {μ ν : Mem} (r : RR q (sub PN μ) ν) (K : Mem → Int32 → Option (Mem × Int32)) (L : Option (Mem × Int32)) (h : Sim RA L (K ν (nI (bsum (sub PN μ) 9)))) : Sim RA L ((f_X12_standSet ν).bind fun q2 => K q2.1 q2.2) := by
  rw [set_ok r]
  rw [Option.bind_some]
  exact h
theorem w_3 {ν : Mem} (K : Mem → Option (Mem × Int32)) (L : Option (Mem × Int32)) (h : Sim RA L (K (LD ν))) : Sim RA L ((f_X12_layDown ν (0 : Int32)).bind fun q2 => K q2) := by
  rw [down_ok]
  rw [Option.bind_some]
  exact h
theorem whose_op {μ ν : Mem} (h : Rel μ ν) (x : Int32) : Sim RA (f_X11_whose μ x) (f_X12_whose ν x) := by
  unfold f_X11_whose f_X12_whose
  rw [in_same]
  rcases in511 x with e | ⟨e, u, u2, rfl⟩
  · rw [e]
    exact h.err (c := 1) (by omega)
  · rw [e]
    obtain ⟨⟨q, hq, r⟩, z⟩ := id h.nr
    simp only [Option.bind_some, bd]
    rw [if_neg n1, if_neg n1]
    refine w_1 r (fun m y => f_X11_whose_L33 fuel0 m (nI u) y 0 0) _ ?_
    refine w_2 r (fun m y => (f_X12_layDown m (0 : Int32)).bind fun q3 => f_X12_whose_L32 fuel0 q3 (nI u) y 0 0) _ ?_
    refine w_3 (fun m => f_X12_whose_L32 fuel0 m (nI u) (nI (bsum (sub PN μ) 9)) 0 0) _ ?_
    exact whose_L (nI u) (s := bsum (sub PN μ) 9) 9 0 μ (LD ν) (nI 0) fuel0 fuel0 (by omega) (fuel_ge 9 (by omega)) (fuel_ge 9 (by omega)) h.down (Held.down2 ν) rfl
