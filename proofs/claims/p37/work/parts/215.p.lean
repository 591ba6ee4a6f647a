theorem held_k {t : Nat} (ht : t ≤ 99) : f_X12_held (nI t) (0 : Int32) (99 : Int32) = some (nI t) := by
  unfold f_X12_held
  rw [if_pos (nI_pos' (by omega)), show (99 : Int32) = nI 99 from rfl, if_pos ((nI_leI (by omega) (by omega)).mpr ht)]
/-- one told shock: the reference's side, and the class's where a law is told -/
theorem shaken_ok {q : Nat} {ρ ν : Mem} (h : RR q ρ ν) {k : Nat} (hk : k < 9) (y : Int32) (hz : ¬ sub [10, 11, 12, 13] ρ 0 3 = 0) :
    Sim (SP ρ ν) ((f_X1_gives (sub [10, 11, 12, 13] ρ) y (ρ 4 k) (ρ 2 k)).bind fun q12 => (f_X4_held q12.2).bind fun q14 => some (put [10, 11, 12, 13] ρ q12.1, q14)) (f_X12_shaken ν (nI k) y) := by
  have R : ∀ t : Int32, Sim (SP ρ ν) ((f_X1_gives (sub [10, 11, 12, 13] ρ) y (ρ 4 k) (ρ 2 k)).bind fun q12 => (f_X4_held q12.2).bind fun q14 => some (put [10, 11, 12, 13] ρ q12.1, q14)) (f_X12_shaken_L11 ν (nI k) y t) := by
    intro t
    unfold f_X12_shaken_L11
    rw [text_1 h.w1]
    simp only [Option.bind_some, bd]
    rw [if_neg hz, if_neg (show ¬ (1 : Int32) = 0 by decide)]
    have d1 : inb (100 : Int32) 128 = true := by decide
    have d2 : inb (109 : Int32) 128 = true := by decide
    have d3 : inb (112 : Int32) 128 = true := by decide
    have u1 := fun μ => its_k μ 1 hk (show 1 < 5 by omega)
    have u3 := fun μ => its_k μ 3 hk (show 3 < 5 by omega)
    rw [if_pos d1, show f_X12_its (upA ν 6 (upd (ν 6) (100 : Int32).toNatClampNeg y)) (nI k) (1 : Int32) = _ from u1 _]
    simp only [Option.bind_some]
    rw [if_pos d2, show ∀ μ, f_X12_its μ (nI k) (3 : Int32) = _ from u3]
    simp only [Option.bind_some]
    rw [if_pos d3]
    have e100 : (100 : Int32).toNatClampNeg = 100 := by decide
    have e112 : (112 : Int32).toNatClampNeg = 112 := by decide
    have e109 : (109 : Int32).toNatClampNeg = 109 := by decide
    rw [e100, e112, e109]
    simp only [upA_s, upA_o _ _ (show (1 : Nat) ≠ 6 by decide)]
    have g := gives_ok (u := 1) (by omega) (lam := sub [10, 11, 12, 13] ρ)
      (ν := upA (upA (upA ν 6 (upd (ν 6) 100 y)) 6 (upd (upd (ν 6) 100 y) 109 (ν 1 (8 + 5 * k + 1)))) 6
        (upd (upd (upd (ν 6) 100 y) 109 (ν 1 (8 + 5 * k + 1))) 112 (ν 1 (8 + 5 * k + 3))))
      (x1 := y) (x2 := ρ 4 k) (x3 := ρ 2 k) (h.w1.frame rfl rfl (fun i _ => rfl)) hz
      (by rw [upA_s, upd_o _ _ (by decide), upd_s, h.mm k hk])
      (by rw [upA_s, upd_s, h.le k hk])
      (by rw [upA_s, if_neg (by decide), upd_o _ _ (by decide), upd_o _ _ (by decide), upd_s])
    refine g.bind ?_
    rintro ⟨a, x⟩ ⟨b, z⟩ ⟨q1, q2, q3⟩
    obtain rfl : x = z := q1
    obtain ⟨v, hv, e1, e2⟩ := held_eq x
    show Sim (SP ρ ν) ((f_X4_held x).bind _) ((f_X12_held x (0 : Int32) (99 : Int32)).bind _)
    rw [e1, e2]
    refine Sim.pure ⟨⟨v, hv, rfl, rfl⟩, (put_v ρ q2).mono (by decide), ?_⟩
    exact (((Off.upA (by decide)).trans (Off.upA (by decide))).trans (Off.upA (by decide))).trans (q3.mono (by decide))
  unfold f_X12_shaken
  split
  · exact R 8
  · exact R 0
/-- no law told: the reference's shock -/
theorem shaken_no {q : Nat} {ρ ν : Mem} (h : RR q ρ ν) {k : Nat} (y : Int32) (hz : sub [10, 11, 12, 13] ρ 0 3 = 0) :
    f_X12_shaken ν (nI k) y = some (ν, if y = 1 then nI 8 else nI 0) := by
  have R : ∀ t : Nat, t ≤ 99 → f_X12_shaken_L11 ν (nI k) y (nI t) = some (ν, nI t) := by
    intro t ht
    unfold f_X12_shaken_L11
    rw [text_1 h.w1]
    simp only [Option.bind_some]
    rw [if_pos hz, if_pos (show (0 : Int32) = 0 from rfl), held_k ht]
    rfl
  unfold f_X12_shaken
  by_cases e : y = 1
  · rw [if_pos e, if_pos e]; exact R 8 (by omega)
  · rw [if_neg e, if_neg e]; exact R 0 (by omega)
/-- the change of one in a shock -/
def one4 (ρ : Mem) (x1 x2 : Int32) (K : Mem → Option Mem) : Option Mem :=
  (if inb x2 9 = true then (if inb x1 9 = true then bd (if 0 ≤ ((ρ 3 x2.toNatClampNeg) - (ρ 3 x1.toNatClampNeg)) then ((ρ 3 x2.toNatClampNeg) - (ρ 3 x1.toNatClampNeg)) else 0 - ((ρ 3 x2.toNatClampNeg) - (ρ 3 x1.toNatClampNeg))) fun y6 => ((f_X1_isMissing (sub [10, 11, 12, 13] ρ)).bind fun q7 => (bd (put [10, 11, 12, 13] ρ q7.1) fun μ8 => ((if q7.2 = 0 then (if inb x2 9 = true then (if inb x2 9 = true then (f_X1_gives (sub [10, 11, 12, 13] μ8) y6 (μ8 4 x2.toNatClampNeg) (μ8 2 x2.toNatClampNeg)).bind fun q12 => (bd (put [10, 11, 12, 13] μ8 q12.1) fun μ13 => ((f_X4_held q12.2).bind fun q14 => ((f_X4_lessen μ13 x2 q14).bind fun q15 => K q15))) else none) else none) else (if y6 = (1 : Int32) then (f_X4_lessen μ8 x2 (8 : Int32)).bind fun q9 => K q9 else K μ8))))) else none) else none)
def one12 (ν : Mem) (x1 x2 : Int32) (K : Mem → Option Mem) : Option Mem :=
  (f_X12_its ν x2 (2 : Int32)).bind fun q4 => ((f_X12_its q4.1 x1 (2 : Int32)).bind fun q5 => (bd (q4.2 - q5.2) fun y6 => ((if 0 ≤ y6 then (f_X12_shaken q5.1 x2 y6).bind fun q7 => ((f_X12_loses q7.1 x2 q7.2).bind fun q8 => K q8) else (f_X12_shaken q5.1 x2 (-y6)).bind fun q9 => ((f_X12_loses q9.1 x2 q9.2).bind fun q10 => K q10)))))
/-- behind a shock's part: the relation, and what stays of the row -/
def ST (q : Nat) (ρ ν : Mem) (a b : Mem) : Prop := RR q a b ∧ Fr ρ ν a b ∧ Off [4, 7, 11] ρ a
theorem one_ok {q : Nat} {ρ ν : Mem} (h : RR q ρ ν) {k1 k2 : Nat} (h1 : k1 < 9) (h2 : k2 < 9) {K4 K12 : Mem → Option Mem} {S : Mem → Mem → Prop}
    (hK : ∀ a b, ST q ρ ν a b → Sim S (K4 a) (K12 b)) : Sim S (one4 ρ (nI k1) (nI k2) K4) (one12 ν (nI k1) (nI k2) K12) := by
  have u := fun {k} (hk : k < 9) => its_k ν (k := k) 2 hk (show 2 < 5 by omega)
  unfold one4 one12
  rw [show f_X12_its ν (nI k2) (2 : Int32) = some (ν, ν 1 (8 + 5 * k2 + 2)) from u h2]
  simp only [Option.bind_some]
  rw [show f_X12_its ν (nI k1) (2 : Int32) = some (ν, ν 1 (8 + 5 * k1 + 2)) from u h1]
  simp only [Option.bind_some, bd]
  rw [if_pos (in_k h2 (by omega)), if_pos (in_k h1 (by omega)), cl_I (show k1 < 2 ^ 31 by omega), cl_I (show k2 < 2 ^ 31 by omega), miss_k]
  simp only [Option.bind_some, put_self, in_k h2 (show 9 ≤ 100000 by omega), if_true]
  rw [h.po k2 h2, h.po k1 h1, Int32.zero_sub]
  -- for either sign
  have main : ∀ y : Int32, Sim S
      (if (if sub [10, 11, 12, 13] ρ 0 3 = 0 then (1 : Int32) else 0) = 0 then (f_X1_gives (sub [10, 11, 12, 13] ρ) y (ρ 4 k2) (ρ 2 k2)).bind fun q12 => (f_X4_held q12.2).bind fun q14 => (f_X4_lessen (put [10, 11, 12, 13] ρ q12.1) (nI k2) q14).bind fun q15 => K4 q15
        else if y = (1 : Int32) then (f_X4_lessen ρ (nI k2) (8 : Int32)).bind fun q9 => K4 q9 else K4 ρ)
      ((f_X12_shaken ν (nI k2) y).bind fun q7 => (f_X12_loses q7.1 (nI k2) q7.2).bind fun q8 => K12 q8) := by
    intro y
    by_cases hz : sub [10, 11, 12, 13] ρ 0 3 = 0
    · rw [if_pos hz, if_neg (show ¬ (1 : Int32) = 0 by decide), shaken_no h y hz]
      simp only [Option.bind_some]
      by_cases hy : y = 1
      · rw [if_pos hy, if_pos hy]
        exact (less_ok h h2 (show 8 ≤ 99 by omega)).bind fun a b ⟨r, f, o⟩ => hK a b ⟨r, f, o.mono (by decide)⟩
      · rw [if_neg hy, if_neg hy]
        obtain ⟨a, b, e1, e2, r, f, o⟩ := less_ok h h2 (show 0 ≤ 99 by omega)
        rw [e2]
        obtain ⟨l, hl, el⟩ := h.lb k2 h2
        rw [lessen_k ρ h2 el hl (by omega)] at e1
        have : a = ρ := by
          rw [← Option.some.inj e1]
          funext c
          by_cases hc : c = 4
          · rw [hc, upA_s]
            funext i
            by_cases hi : i = k2
            · rw [hi, upd_s, el]; rfl
            · rw [upd_o _ _ hi]
          · rw [upA_o _ _ hc]
        rw [this] at r f o
        exact hK ρ b ⟨r, f, o.mono (by decide)⟩
    · rw [if_neg hz, if_pos (show (0 : Int32) = 0 from rfl)]
      obtain ⟨⟨a, x⟩, ⟨b, z⟩, e1, e2, ⟨v, hv, e3, e4⟩, o1, o2⟩ := shaken_ok h h2 y hz
      rw [e2]
      obtain ⟨⟨c, w⟩, g1, g2⟩ := Option.bind_eq_some_iff.mp e1
      obtain ⟨t, g3, g4⟩ := Option.bind_eq_some_iff.mp g2
      rw [g1]
      simp only [Option.bind_some]
      have g3' : f_X4_held w = some t := g3
      have g5 : (put [10, 11, 12, 13] ρ c, t) = (a, x) := Option.some.inj g4
      have g6 : put [10, 11, 12, 13] ρ c = a := congrArg Prod.fst g5
      have g7 : t = x := congrArg Prod.snd g5
      rw [g3', g6, g7]
      have e3' : x = nI v := e3
      have e4' : z = nI v := e4
      have o1' : Off [7, 11] ρ a := o1
      have o2' : Off [6, 7] ν b := o2
      simp only [Option.bind_some]
      rw [e3', e4']
      exact (less_ok (h.scr o1' o2') h2 hv).bind fun a' b' ⟨r, f, o⟩ => hK a' b' ⟨r, (Fr.scr o1' o2').trans f, (o1'.mono (by decide)).trans (o.mono (by decide))⟩
  by_cases hs : (0 : Int32) ≤ ν 1 (8 + 5 * k2 + 2) - ν 1 (8 + 5 * k1 + 2)
  · rw [if_pos hs, if_pos hs]; exact main _
  · rw [if_neg hs, if_neg hs]; exact main _
