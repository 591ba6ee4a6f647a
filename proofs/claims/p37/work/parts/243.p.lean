theorem Extra.clear {f t w s s' : Nat → Int32} (e : Extra f t w s) (h2 : s' 2 = 0) (h : ∀ i, (3 ≤ i ∧ i < 8) ∨ 303 ≤ i → s' i = s i) : Extra (upd f 5 0) t w s' := by
  obtain ⟨-, ⟨b, b1, b2, b3⟩, c, d, e⟩ := e
  refine ⟨⟨0, by omega, upd_s _ _ _, h2⟩, ⟨b, b1, by rw [upd_o _ _ (by decide)]; exact b2, by rw [h 3 (by omega)]; exact b3⟩, by rw [upd_o _ _ (by decide), h 4 (by omega)]; exact c, fun j hj => ?_, fun j hj => ?_⟩
  · rw [h (303 + j) (by omega)]; exact d j hj
  · rw [h (363 + j) (by omega)]; exact e j hj
theorem swm_o (i j : Nat) (μ : Mem) {k : Nat} (hi : k ≠ i) (hj : k ≠ j) : swm i j μ k = μ k := by
  unfold swm
  rw [if_neg hi, if_neg hj]
/-- a text's end and its call: the answer, and all that agrees -/
abbrev RT (a : Mem × Int32 × Nat) (b : Mem × Int32) : Prop := a.2.1 = b.2 ∧ Rel a.1 b.1
theorem nu5_ok (ν : Mem) (u : Nat) : ∃ n5, n5 = upA (upA (upA (upA ν 0 (upd (ν 0) 8 (nI u))) 0 (upd ((upA ν 0 (upd (ν 0) 8 (nI u))) 0) 5 0)) 0 (upd ((upA (upA ν 0 (upd (ν 0) 8 (nI u))) 0 (upd ((upA ν 0 (upd (ν 0) 8 (nI u))) 0) 5 0)) 0) 6 0)) 0
      (upd ((upA (upA (upA ν 0 (upd (ν 0) 8 (nI u))) 0 (upd ((upA ν 0 (upd (ν 0) 8 (nI u))) 0) 5 0)) 0 (upd ((upA (upA ν 0 (upd (ν 0) 8 (nI u))) 0 (upd ((upA ν 0 (upd (ν 0) 8 (nI u))) 0) 5 0)) 0) 6 0)) 0) 7 0) ∧
    n5 0 8 = nI u ∧ n5 0 5 = 0 ∧ n5 0 6 = 0 ∧ n5 0 7 = 0 ∧ Off [0] ν n5 ∧ ∀ i, i ≠ 5 → i ≠ 6 → i ≠ 7 → i ≠ 8 → n5 0 i = ν 0 i := by
  refine ⟨_, rfl, ?_, ?_, ?_, ?_, ?_, ?_⟩
  · rw [upA_s, upd_o _ _ (by decide), upA_s, upd_o _ _ (by decide), upA_s, upd_o _ _ (by decide), upA_s, upd_s]
  · rw [upA_s, upd_o _ _ (by decide), upA_s, upd_o _ _ (by decide), upA_s, upd_s]
  · rw [upA_s, upd_o _ _ (by decide), upA_s, upd_s]
  · rw [upA_s, upd_s]
  · exact (((Off.upA (by decide)).trans (Off.upA (by decide))).trans (Off.upA (by decide))).trans (Off.upA (by decide))
  · intro i h5 h6 h7 h8
    rw [upA_s, upd_o _ _ h7, upA_s, upd_o _ _ h6, upA_s, upd_o _ _ h5, upA_s, upd_o _ _ h8]
theorem inb53 {u : Nat} (hu : u < 2) : (53 : Int32) + (125 : Int32) * nI u = nI (53 + 125 * u) := by
  rw [show (53 : Int32) = nI 53 from rfl, show (125 : Int32) = nI 125 from rfl, nI_mulI, nI_add]
theorem textN_0 {μ ν l m : Mem} (h : Rel μ ν) (f1 : Off [0, 3] (sub [7, 8, 9, 10, 2] μ) l) (l0 : l 0 0 = sub [7, 8, 9, 10, 2] μ 0 0) (f3 : Off [0, 5] ν m) (f4 : ∀ i, i ≠ 5 → i ≠ 6 → i ≠ 7 → i ≠ 8 → m 0 i = ν 0 i) (l3 : l 0 3 = sub [7, 8, 9, 10, 2] μ 0 3) :
    Rel (upA (put [7, 8, 9, 10, 2] μ l) 1 (upd ((put [7, 8, 9, 10, 2] μ l) 1) 5 0)) (upA m 1 (upd (m 1) 2 0)) := by
  have m1 : m 1 = ν 1 := f3 1 (by decide)
  have p1 : put [7, 8, 9, 10, 2] μ l 1 = μ 1 := rfl
  have p2 : put [7, 8, 9, 10, 2] μ l 2 = μ 2 := f1 4 (by decide)
  have pF : put [7, 8, 9, 10, 2] μ l 7 = l 0 := rfl
  have pC : put [7, 8, 9, 10, 2] μ l 9 = μ 9 := f1 2 (by decide)
  have n1 : ∀ i, i ≠ 2 → upA m 1 (upd (m 1) 2 0) 1 i = ν 1 i := fun i hi => by rw [upA_s, upd_o _ _ hi, m1]
  have wa : LR 0 (sub [7, 8, 9, 10] (upA (put [7, 8, 9, 10, 2] μ l) 1 (upd ((put [7, 8, 9, 10, 2] μ l) 1) 5 0))) (upA m 1 (upd (m 1) 2 0)) := by
    refine h.w0.rg ?_ (fun j hj => ?_) (fun i h1 h2 => n1 i (by omega))
    · show put [7, 8, 9, 10, 2] μ l 7 3 = μ 7 3
      rw [pF]; exact l3
    · show put [7, 8, 9, 10, 2] μ l 9 j = μ 9 j
      rw [pC]
  have wb : LR 1 (sub [11, 12, 13, 14] (upA (put [7, 8, 9, 10, 2] μ l) 1 (upd ((put [7, 8, 9, 10, 2] μ l) 1) 5 0))) (upA m 1 (upd (m 1) 2 0)) :=
    h.w1.rg rfl (fun j hj => rfl) (fun i h1 h2 => n1 i (by omega))
  refine h.laws ?_ ?_ (fun i hi => n1 i (by omega)) wa wb ?_ ?_ l0 rfl ?_
  · exact ((put_offG (by decide) f1).mono (fun a ha => ha)).trans (Off.upA (by decide))
  · exact (f3.mono (by decide)).trans (Off.upA (by decide))
  · rw [upA_o _ _ (by decide)]; exact f4 3 (by decide) (by decide) (by decide) (by decide)
  · rw [upA_o _ _ (by decide)]; exact f4 14 (by decide) (by decide) (by decide) (by decide)
  · rw [upA_s, upA_o _ _ (show (2 : Nat) ≠ 1 by decide), upA_o _ _ (show (3 : Nat) ≠ 1 by decide), p1, p2, show put [7, 8, 9, 10, 2] μ l 3 = μ 3 from rfl]
    refine h.ex.clear ?_ (fun i hi => n1 i (by omega))
    rw [upA_s, upd_s]
theorem textY_0 {μ ν l m : Mem} (h : Rel μ ν) (f1 : Off [0, 3] (sub [7, 8, 9, 10, 2] μ) l) (l0 : l 0 0 = sub [7, 8, 9, 10, 2] μ 0 0) (f3 : Off [0, 5] ν m) (f4 : ∀ i, i ≠ 5 → i ≠ 6 → i ≠ 7 → i ≠ 8 → m 0 i = ν 0 i)
    {c D : Nat} (hc : c ≤ 60) (lc : l 0 3 = nI c) (mc : m 0 7 = nI c) (co : CO 0 c D (l 3) (m 5)) {N : Mem}
    (hN : N = upA (upA (upA m 1 (upd (m 1) 2 0)) 1 (upd ((upA m 1 (upd (m 1) 2 0)) 1) 53 (m 0 7))) 1 (fun i => if 54 ≤ i ∧ i < 54 + 2 * c then m 5 (i - 54) else (upA (upA m 1 (upd (m 1) 2 0)) 1 (upd ((upA m 1 (upd (m 1) 2 0)) 1) 53 (m 0 7))) 1 i)) :
    Rel (upA (swm 9 10 (put [7, 8, 9, 10, 2] μ l)) 1 (upd ((swm 9 10 (put [7, 8, 9, 10, 2] μ l)) 1) 5 0)) N := by
  have m1 : m 1 = ν 1 := f3 1 (by decide)
  have p1 : swm 9 10 (put [7, 8, 9, 10, 2] μ l) 1 = μ 1 := rfl
  have p2 : swm 9 10 (put [7, 8, 9, 10, 2] μ l) 2 = μ 2 := f1 4 (by decide)
  have p3 : swm 9 10 (put [7, 8, 9, 10, 2] μ l) 3 = μ 3 := rfl
  have pF : swm 9 10 (put [7, 8, 9, 10, 2] μ l) 7 = l 0 := rfl
  have pC : swm 9 10 (put [7, 8, 9, 10, 2] μ l) 9 = l 3 := rfl
  have nn : ∀ i, i ≠ 2 → ¬ (53 ≤ i ∧ i < 54 + 2 * c) → N 1 i = ν 1 i := fun i h2 h3 => by
    rw [hN, upA_s, if_neg (by omega), upA_s, upd_o _ _ (by omega), upA_s, upd_o _ _ h2, m1]
  have wa : LR 0 (sub [7, 8, 9, 10] (upA (swm 9 10 (put [7, 8, 9, 10, 2] μ l)) 1 (upd ((swm 9 10 (put [7, 8, 9, 10, 2] μ l)) 1) 5 0))) N := by
    obtain ⟨dep, d0, -, hs⟩ := co
    refine ⟨c, hc, lc, ?_, dep, d0, fun j hj => ?_⟩
    · rw [hN, upA_s, if_neg (by omega), upA_s, upd_s, mc]
    · show StepOK 0 (l 3 j) _ _ _ _
      have a : N 1 (54 + 2 * j) = m 5 (2 * j) := by
        rw [hN, upA_s, if_pos (by omega), show 54 + 2 * j - 54 = 2 * j by omega]
      have b : N 1 (55 + 2 * j) = m 5 (2 * j + 1) := by
        rw [hN, upA_s, if_pos (by omega), show 55 + 2 * j - 54 = 2 * j + 1 by omega]
      have := hs j hj
      rw [← a, ← b] at this
      exact this
  have wb : LR 1 (sub [11, 12, 13, 14] (upA (swm 9 10 (put [7, 8, 9, 10, 2] μ l)) 1 (upd ((swm 9 10 (put [7, 8, 9, 10, 2] μ l)) 1) 5 0))) N :=
    h.w1.rg rfl (fun j hj => rfl) (fun i h1 h2 => nn i (by omega) (by omega))
  have N0 : ∀ a, a ≠ 1 → N a = m a := fun a ha => by rw [hN, upA_o _ _ ha, upA_o _ _ ha, upA_o _ _ ha]
  refine h.laws ?_ ?_ (fun i hi => nn i (by omega) (by omega)) wa wb ?_ ?_ l0 rfl ?_
  · intro a ha
    have a1 : a ≠ 1 := fun e => ha (by rw [e]; decide)
    have a9 : a ≠ 9 := fun e => ha (by rw [e]; decide)
    have a10 : a ≠ 10 := fun e => ha (by rw [e]; decide)
    rw [upA_o _ _ a1, swm_o _ _ _ a9 a10]
    exact put_offG (M := [1, 2, 7, 8, 9, 10, 11, 12, 13, 14]) (by decide) f1 a ha
  · intro a ha
    have a1 : a ≠ 1 := fun e => ha (by rw [e]; decide)
    rw [N0 a a1]
    refine f3 a (fun q => ha ?_)
    have : ∀ a, a ∈ [0, 5] → a ∈ [0, 1, 5] := by decide
    exact this a q
  · rw [N0 0 (by decide)]; exact f4 3 (by decide) (by decide) (by decide) (by decide)
  · rw [N0 0 (by decide)]; exact f4 14 (by decide) (by decide) (by decide) (by decide)
  · rw [upA_s, upA_o _ _ (show (2 : Nat) ≠ 1 by decide), upA_o _ _ (show (3 : Nat) ≠ 1 by decide), p1, p2, p3]
    refine h.ex.clear ?_ (fun i hi => nn i (by omega) (by omega))
    rw [hN, upA_s, if_neg (by omega), upA_s, upd_o _ _ (by decide), upA_s, upd_s]
theorem textN_1 {μ ν l m : Mem} (h : Rel μ ν) (f1 : Off [0, 3] (sub [11, 12, 13, 14, 2] μ) l) (l0 : l 0 0 = sub [11, 12, 13, 14, 2] μ 0 0) (f3 : Off [0, 5] ν m) (f4 : ∀ i, i ≠ 5 → i ≠ 6 → i ≠ 7 → i ≠ 8 → m 0 i = ν 0 i) (l3 : l 0 3 = sub [11, 12, 13, 14, 2] μ 0 3) :
    Rel (upA (put [11, 12, 13, 14, 2] μ l) 1 (upd ((put [11, 12, 13, 14, 2] μ l) 1) 5 0)) (upA m 1 (upd (m 1) 2 0)) := by
  have m1 : m 1 = ν 1 := f3 1 (by decide)
  have p1 : put [11, 12, 13, 14, 2] μ l 1 = μ 1 := rfl
  have p2 : put [11, 12, 13, 14, 2] μ l 2 = μ 2 := f1 4 (by decide)
  have pF : put [11, 12, 13, 14, 2] μ l 11 = l 0 := rfl
  have pC : put [11, 12, 13, 14, 2] μ l 13 = μ 13 := f1 2 (by decide)
  have n1 : ∀ i, i ≠ 2 → upA m 1 (upd (m 1) 2 0) 1 i = ν 1 i := fun i hi => by rw [upA_s, upd_o _ _ hi, m1]
  have wa : LR 1 (sub [11, 12, 13, 14] (upA (put [11, 12, 13, 14, 2] μ l) 1 (upd ((put [11, 12, 13, 14, 2] μ l) 1) 5 0))) (upA m 1 (upd (m 1) 2 0)) := by
    refine h.w1.rg ?_ (fun j hj => ?_) (fun i h1 h2 => n1 i (by omega))
    · show put [11, 12, 13, 14, 2] μ l 11 3 = μ 11 3
      rw [pF]; exact l3
    · show put [11, 12, 13, 14, 2] μ l 13 j = μ 13 j
      rw [pC]
  have wb : LR 0 (sub [7, 8, 9, 10] (upA (put [11, 12, 13, 14, 2] μ l) 1 (upd ((put [11, 12, 13, 14, 2] μ l) 1) 5 0))) (upA m 1 (upd (m 1) 2 0)) :=
    h.w0.rg rfl (fun j hj => rfl) (fun i h1 h2 => n1 i (by omega))
  refine h.laws ?_ ?_ (fun i hi => n1 i (by omega)) wb wa ?_ ?_ rfl l0 ?_
  · exact ((put_offG (by decide) f1).mono (fun a ha => ha)).trans (Off.upA (by decide))
  · exact (f3.mono (by decide)).trans (Off.upA (by decide))
  · rw [upA_o _ _ (by decide)]; exact f4 3 (by decide) (by decide) (by decide) (by decide)
  · rw [upA_o _ _ (by decide)]; exact f4 14 (by decide) (by decide) (by decide) (by decide)
  · rw [upA_s, upA_o _ _ (show (2 : Nat) ≠ 1 by decide), upA_o _ _ (show (3 : Nat) ≠ 1 by decide), p1, p2, show put [11, 12, 13, 14, 2] μ l 3 = μ 3 from rfl]
    refine h.ex.clear ?_ (fun i hi => n1 i (by omega))
    rw [upA_s, upd_s]
theorem textY_1 {μ ν l m : Mem} (h : Rel μ ν) (f1 : Off [0, 3] (sub [11, 12, 13, 14, 2] μ) l) (l0 : l 0 0 = sub [11, 12, 13, 14, 2] μ 0 0) (f3 : Off [0, 5] ν m) (f4 : ∀ i, i ≠ 5 → i ≠ 6 → i ≠ 7 → i ≠ 8 → m 0 i = ν 0 i)
    {c D : Nat} (hc : c ≤ 60) (lc : l 0 3 = nI c) (mc : m 0 7 = nI c) (co : CO 1 c D (l 3) (m 5)) {N : Mem}
    (hN : N = upA (upA (upA m 1 (upd (m 1) 2 0)) 1 (upd ((upA m 1 (upd (m 1) 2 0)) 1) 178 (m 0 7))) 1 (fun i => if 179 ≤ i ∧ i < 179 + 2 * c then m 5 (i - 179) else (upA (upA m 1 (upd (m 1) 2 0)) 1 (upd ((upA m 1 (upd (m 1) 2 0)) 1) 178 (m 0 7))) 1 i)) :
    Rel (upA (swm 13 14 (put [11, 12, 13, 14, 2] μ l)) 1 (upd ((swm 13 14 (put [11, 12, 13, 14, 2] μ l)) 1) 5 0)) N := by
  have m1 : m 1 = ν 1 := f3 1 (by decide)
  have p1 : swm 13 14 (put [11, 12, 13, 14, 2] μ l) 1 = μ 1 := rfl
  have p2 : swm 13 14 (put [11, 12, 13, 14, 2] μ l) 2 = μ 2 := f1 4 (by decide)
  have p3 : swm 13 14 (put [11, 12, 13, 14, 2] μ l) 3 = μ 3 := rfl
  have pF : swm 13 14 (put [11, 12, 13, 14, 2] μ l) 11 = l 0 := rfl
  have pC : swm 13 14 (put [11, 12, 13, 14, 2] μ l) 13 = l 3 := rfl
  have nn : ∀ i, i ≠ 2 → ¬ (178 ≤ i ∧ i < 179 + 2 * c) → N 1 i = ν 1 i := fun i h2 h3 => by
    rw [hN, upA_s, if_neg (by omega), upA_s, upd_o _ _ (by omega), upA_s, upd_o _ _ h2, m1]
  have wa : LR 1 (sub [11, 12, 13, 14] (upA (swm 13 14 (put [11, 12, 13, 14, 2] μ l)) 1 (upd ((swm 13 14 (put [11, 12, 13, 14, 2] μ l)) 1) 5 0))) N := by
    obtain ⟨dep, d0, -, hs⟩ := co
    refine ⟨c, hc, lc, ?_, dep, d0, fun j hj => ?_⟩
    · rw [hN, upA_s, if_neg (by omega), upA_s, upd_s, mc]
    · show StepOK 1 (l 3 j) _ _ _ _
      have a : N 1 (179 + 2 * j) = m 5 (2 * j) := by
        rw [hN, upA_s, if_pos (by omega), show 179 + 2 * j - 179 = 2 * j by omega]
      have b : N 1 (180 + 2 * j) = m 5 (2 * j + 1) := by
        rw [hN, upA_s, if_pos (by omega), show 180 + 2 * j - 179 = 2 * j + 1 by omega]
      have := hs j hj
      rw [← a, ← b] at this
      exact this
  have wb : LR 0 (sub [7, 8, 9, 10] (upA (swm 13 14 (put [11, 12, 13, 14, 2] μ l)) 1 (upd ((swm 13 14 (put [11, 12, 13, 14, 2] μ l)) 1) 5 0))) N :=
    h.w0.rg rfl (fun j hj => rfl) (fun i h1 h2 => nn i (by omega) (by omega))
  have N0 : ∀ a, a ≠ 1 → N a = m a := fun a ha => by rw [hN, upA_o _ _ ha, upA_o _ _ ha, upA_o _ _ ha]
  refine h.laws ?_ ?_ (fun i hi => nn i (by omega) (by omega)) wb wa ?_ ?_ rfl l0 ?_
  · intro a ha
    have a1 : a ≠ 1 := fun e => ha (by rw [e]; decide)
    have a9 : a ≠ 13 := fun e => ha (by rw [e]; decide)
    have a10 : a ≠ 14 := fun e => ha (by rw [e]; decide)
    rw [upA_o _ _ a1, swm_o _ _ _ a9 a10]
    exact put_offG (M := [1, 2, 7, 8, 9, 10, 11, 12, 13, 14]) (by decide) f1 a ha
  · intro a ha
    have a1 : a ≠ 1 := fun e => ha (by rw [e]; decide)
    rw [N0 a a1]
    refine f3 a (fun q => ha ?_)
    have : ∀ a, a ∈ [0, 5] → a ∈ [0, 1, 5] := by decide
    exact this a q
  · rw [N0 0 (by decide)]; exact f4 3 (by decide) (by decide) (by decide) (by decide)
  · rw [N0 0 (by decide)]; exact f4 14 (by decide) (by decide) (by decide) (by decide)
  · rw [upA_s, upA_o _ _ (show (2 : Nat) ≠ 1 by decide), upA_o _ _ (show (3 : Nat) ≠ 1 by decide), p1, p2, p3]
    refine h.ex.clear ?_ (fun i hi => nn i (by omega) (by omega))
    rw [hN, upA_s, if_neg (by omega), upA_s, upd_o _ _ (by decide), upA_s, upd_s]
theorem text_op {μ ν : Mem} (h : Rel μ ν) (x : Int32) : Sim RT (f_X11_text μ x) (f_X12_text ν x) := by
  unfold f_X11_text f_X12_text
  rw [in_same]
  rcases in_lh x (l := 0) (n := 1) (by omega) (by omega) with e | ⟨e, u, -, u2, rfl⟩
  · rw [show f_X11_within x (0 : Int32) (1 : Int32) = _ from e]
    simp only [Option.bind_some]
    rw [if_pos trivial, if_pos trivial]
    refine (err_ok h.nr (c := 1) (by omega)).bind ?_
    rintro ⟨a, y⟩ ⟨b, w⟩ k
    have := h.or k
    exact Sim.pure ⟨this.1, this.2⟩
  · rw [show f_X11_within (nI u) (0 : Int32) (1 : Int32) = _ from e]
    simp only [Option.bind_some]
    rw [if_neg n1, if_neg n1]
    unfold f_X5_lawOf
    obtain ⟨n5, e5, h8, h5, h6, h7, ho, hx⟩ := nu5_ok ν u
    simp only [bd]
    rw [← e5]
    obtain ⟨n, n60, nc, n2⟩ := h.ex.1
    have ht := h.ex.2.2.2.1
    obtain ⟨-, -, k7, k11⟩ := h.tr
    have : u = 0 ∨ u = 1 := by omega
    rcases this with e | e <;> subst e
    · rw [if_pos (show nI 0 = 0 from rfl)]
      simp only [Option.bind_some, put_self]
      rw [if_pos trivial, nc]
      obtain ⟨l, y, bo, m, z, r1, r2, f1, l0, f3, f4, hh⟩ := read_ok (lam := sub [7, 8, 9, 10, 2] μ) (u := 0) (by omega) n60 k7 n2 (fun j hj => ht j hj) h8 h5 h6 h7 ho hx
      rw [r1, r2]
      simp only [Option.bind_some]
      have m2 : m 1 2 = nI n := by rw [f3 1 (by decide)]; exact n2
      rcases hh with ⟨rfl, y0, my, zz, l3⟩ | ⟨rfl, rfl, zz, my, c, D, hc, lc, mc, co⟩
      · rw [if_neg (show ¬ false = true by decide), if_pos y0]
        have R := textN_0 h f1 l0 f3 f4 l3
        have X : (if z = 0 then f_X12_text_L59 m (nI 0) else if inb (2 : Int32) 387 = true then (if m 0 5 = m 1 (2 : Int32).toNatClampNeg then f_X12_text_L60 m (nI 0) (1 : Int32) else f_X12_text_L59 m (nI 0)) else none) = some (upA m 1 (upd (m 1) 2 0), (-10 : Int32) - y) := by
          have Y : f_X12_text_L59 m (nI 0) = some (upA m 1 (upd (m 1) 2 0), (-10 : Int32) - y) := by
            unfold f_X12_text_L59 f_X12_text_L60
            rw [if_pos i2, c2]
            simp only [bd]
            rw [if_pos trivial, upA_o _ _ (show (0 : Nat) ≠ 1 by decide), my]
          rcases zz with z0 | ⟨z0, ne⟩
          · rw [if_pos z0]; exact Y
          · rw [if_neg z0, if_pos i2, c2, m2, if_neg ne]; exact Y
        rw [X]
        exact Sim.pure ⟨rfl, R⟩
      · rw [if_pos rfl, if_neg (show ¬ (0 : Int32) ≤ -1 by decide), if_neg zz, if_pos i2, c2, m2, my, if_pos rfl]
        unfold f_X12_text_L60
        rw [if_pos i2, c2]
        simp only [bd]
        rw [if_neg n10, inb53 (u := 0) (by omega), if_pos (in_k (show 53 + 125 * 0 < 387 by omega) (by omega)), cl_I (by omega)]
        have T := textC (u := 0) (by omega) hc (2 * c) 0 (upA (upA m 1 (upd (m 1) 2 0)) 1 (upd ((upA m 1 (upd (m 1) 2 0)) 1) (53 + 125 * 0) (m 0 7))) fuel0 (by omega) (fuel_ge _ (by omega)) (by rw [upA_o _ _ (by decide), upA_o _ _ (by decide)]; exact mc)
        rw [show (0 : Int32) = nI 0 from rfl]
        rw [show (upA m 1 (upd (m 1) 2 (nI 0))) 0 7 = m 0 7 from by rw [upA_o _ _ (by decide)]]
        rw [show f_X12_text_L101 fuel0 (upA (upA m 1 (upd (m 1) 2 (nI 0))) 1 (upd ((upA m 1 (upd (m 1) 2 (nI 0))) 1) (53 + 125 * 0) (m 0 7))) (nI (53 + 125 * 0)) (nI 0) = _ from T]
        exact Sim.pure ⟨rfl, textY_0 h f1 l0 f3 f4 hc lc mc co rfl⟩
    · rw [if_neg (show ¬ nI 1 = 0 by decide)]
      simp only [Option.bind_some, put_self]
      rw [if_neg (show ¬ (2 : Nat) = 1 by decide), if_pos trivial, nc]
      obtain ⟨l, y, bo, m, z, r1, r2, f1, l0, f3, f4, hh⟩ := read_ok (lam := sub [11, 12, 13, 14, 2] μ) (u := 1) (by omega) n60 k11 n2 (fun j hj => ht j hj) h8 h5 h6 h7 ho hx
      rw [r1, r2]
      simp only [Option.bind_some]
      have m2 : m 1 2 = nI n := by rw [f3 1 (by decide)]; exact n2
      rcases hh with ⟨rfl, y0, my, zz, l3⟩ | ⟨rfl, rfl, zz, my, c, D, hc, lc, mc, co⟩
      · rw [if_neg (show ¬ false = true by decide), if_pos y0]
        have R := textN_1 h f1 l0 f3 f4 l3
        have X : (if z = 0 then f_X12_text_L59 m (nI 1) else if inb (2 : Int32) 387 = true then (if m 0 5 = m 1 (2 : Int32).toNatClampNeg then f_X12_text_L60 m (nI 1) (1 : Int32) else f_X12_text_L59 m (nI 1)) else none) = some (upA m 1 (upd (m 1) 2 0), (-10 : Int32) - y) := by
          have Y : f_X12_text_L59 m (nI 1) = some (upA m 1 (upd (m 1) 2 0), (-10 : Int32) - y) := by
            unfold f_X12_text_L59 f_X12_text_L60
            rw [if_pos i2, c2]
            simp only [bd]
            rw [if_pos trivial, upA_o _ _ (show (0 : Nat) ≠ 1 by decide), my]
          rcases zz with z0 | ⟨z0, ne⟩
          · rw [if_pos z0]; exact Y
          · rw [if_neg z0, if_pos i2, c2, m2, if_neg ne]; exact Y
        rw [X]
        exact Sim.pure ⟨rfl, R⟩
      · rw [if_pos rfl, if_neg (show ¬ (0 : Int32) ≤ -1 by decide), if_neg zz, if_pos i2, c2, m2, my, if_pos rfl]
        unfold f_X12_text_L60
        rw [if_pos i2, c2]
        simp only [bd]
        rw [if_neg n10, inb53 (u := 1) (by omega), if_pos (in_k (show 53 + 125 * 1 < 387 by omega) (by omega)), cl_I (by omega)]
        have T := textC (u := 1) (by omega) hc (2 * c) 0 (upA (upA m 1 (upd (m 1) 2 0)) 1 (upd ((upA m 1 (upd (m 1) 2 0)) 1) (53 + 125 * 1) (m 0 7))) fuel0 (by omega) (fuel_ge _ (by omega)) (by rw [upA_o _ _ (by decide), upA_o _ _ (by decide)]; exact mc)
        rw [show (0 : Int32) = nI 0 from rfl]
        rw [show (upA m 1 (upd (m 1) 2 (nI 0))) 0 7 = m 0 7 from by rw [upA_o _ _ (by decide)]]
        rw [show f_X12_text_L101 fuel0 (upA (upA m 1 (upd (m 1) 2 (nI 0))) 1 (upd ((upA m 1 (upd (m 1) 2 (nI 0))) 1) (53 + 125 * 1) (m 0 7))) (nI (53 + 125 * 1)) (nI 0) = _ from T]
        exact Sim.pure ⟨rfl, textY_1 h f1 l0 f3 f4 hc lc mc co rfl⟩
