theorem at_I (k c : Nat) : ((8 : Int32) + ((5 : Int32) * nI k)) + nI c = nI (8 + 5 * k + c) := by
  rw [show (8 : Int32) = nI 8 from rfl, show (5 : Int32) = nI 5 from rfl, nI_mulI, nI_add, nI_add]
theorem its_k (μ : Mem) {k : Nat} (c : Nat) (hk : k < 9) (hc : c < 5) : f_X12_its μ (nI k) (nI c) = some (μ, μ 1 (8 + 5 * k + c)) := by
  unfold f_X12_its
  rw [at_I, if_pos ((inb_iff (by omega)).mpr (by omega)), cl_I (by omega)]
theorem lays_k (μ : Mem) {k : Nat} (c : Nat) (v : Int32) (hk : k < 9) (hc : c < 5) : f_X12_lays1 μ (nI k) (nI c) v = some (upA μ 1 (upd (μ 1) (8 + 5 * k + c) v)) := by
  unfold f_X12_lays1
  rw [at_I, if_pos ((inb_iff (by omega)).mpr (by omega)), cl_I (by omega)]
  rfl
theorem held_eq (x : Int32) : ∃ j, j ≤ 99 ∧ f_X4_held x = some (nI j) ∧ f_X12_held x (0 : Int32) (99 : Int32) = some (nI j) := by
  have z : (0 : Int32) = nI 0 := rfl
  have n : (99 : Int32) = nI 99 := rfl
  unfold f_X4_held f_X12_held
  by_cases h0 : x < 0
  · refine ⟨0, by omega, ?_, ?_⟩
    · have h9 : x < 99 := Int32.lt_of_lt_of_le h0 (by decide)
      rw [if_pos h9, if_neg (Int32.not_lt.mpr (Int32.le_of_lt h0))]; rfl
    · rw [if_neg (Int32.not_le.mpr h0)]; rfl
  · obtain ⟨j, hj, rfl⟩ := nI_of h0
    by_cases h9 : j < 99
    · refine ⟨j, by omega, ?_, ?_⟩
      · rw [n, if_pos ((nI_ltI hj (by omega)).mpr h9)]
        by_cases hj0 : 0 < j
        · rw [z, if_pos ((nI_ltI (by omega) hj).mpr hj0)]
        · rw [z, if_neg (by rw [nI_ltI (by omega) hj]; exact hj0), show j = 0 by omega]
      · rw [if_pos (Int32.not_lt.mp h0), n, if_pos ((nI_leI hj (by omega)).mpr (by omega))]
    · refine ⟨99, by omega, ?_, ?_⟩
      · have hn : ¬ nI j < nI 99 := by rw [nI_ltI hj (by omega)]; exact h9
        rw [n, if_neg hn, if_pos (show (0 : Int32) < nI 99 by decide)]
      · rw [if_pos (Int32.not_lt.mp h0), n]
        by_cases h : j = 99
        · rw [if_pos ((nI_leI hj (by omega)).mpr (by omega)), h]
        · rw [if_neg (by rw [nI_leI hj (by omega)]; omega)]
theorem neg_dec : ∀ m : Nat, m < 100 → 0 < m → (-(nI m)) < (0 : Int32) := by decide +kernel
theorem sub_low {l j : Nat} (hj : j ≤ 99) (h : l < j) : nI l - nI j < 0 := by
  have e : nI l - nI j = -(nI (j - l)) := by rw [← nI_subI (Nat.le_of_lt h), Int32.neg_sub]
  rw [e]
  exact neg_dec _ (by omega) (by omega)
theorem sub_pos {l j : Nat} (hl : l < 1000) (hj : j ≤ 99) : ((0 : Int32) < nI l - nI j) ↔ j < l := by
  by_cases h : l < j
  · have := sub_low hj h
    constructor
    · intro h2; exact absurd h2 (Int32.not_lt.mpr (Int32.le_of_lt this))
    · intro h2; omega
  · rw [nI_subI (by omega), show (0 : Int32) = nI 0 from rfl, nI_ltI (by omega) (by omega)]; omega
theorem lessen_k (ρ : Mem) {k l j : Nat} (hk : k < 9) (hl : ρ 4 k = nI l) (hl9 : l < 1000) (hj : j ≤ 99) :
    f_X4_lessen ρ (nI k) (nI j) = some (upA ρ 4 (upd (ρ 4) k (nI (l - j)))) := by
  unfold f_X4_lessen
  rw [if_pos ((inb_iff (by omega)).mpr hk), if_pos ((inb_iff (by omega)).mpr hk), cl_I (by omega), hl]
  simp only [bd]
  by_cases h : j < l
  · rw [if_pos ((sub_pos hl9 hj).mpr h), nI_subI (by omega)]
  · rw [if_neg (by rw [sub_pos hl9 hj]; exact h), show l - j = 0 by omega]; rfl
theorem loses_k (ν : Mem) {k l j : Nat} (hk : k < 9) (hl : ν 1 (8 + 5 * k + 3) = nI l) (hl9 : l < 1000) (hj : j ≤ 99) :
    f_X12_loses ν (nI k) (nI j) = some (upA ν 1 (upd (ν 1) (8 + 5 * k + 3) (nI (l - j)))) := by
  unfold f_X12_loses
  rw [show (3 : Int32) = nI 3 from rfl, its_k ν 3 hk (by omega)]
  simp only [Option.bind_some]
  have : f_X12_held (nI l - nI j) (0 : Int32) (999 : Int32) = some (nI (l - j)) := by
    unfold f_X12_held
    by_cases h : j ≤ l
    · rw [nI_subI h, if_pos (nI_pos' (by omega)), show (999 : Int32) = nI 999 from rfl, if_pos ((nI_leI (by omega) (by omega)).mpr (by omega))]
    · have h2 : ¬ (0 : Int32) ≤ nI l - nI j := Int32.not_le.mpr (sub_low hj (by omega))
      rw [if_neg h2, show l - j = 0 by omega]; rfl
  rw [hl, this]
  simp only [Option.bind_some]
  rw [lays_k ν 3 _ hk (by omega)]
  rfl
abbrev RR (q : Nat) (ρ ν : Mem) : Prop :=
  (∀ k, k < 9 → ρ 1 k = ν 1 (8 + 5 * k + 0)) ∧
  (∀ k, k < 9 → ρ 2 k = ν 1 (8 + 5 * k + 1)) ∧
  (∀ k, k < 9 → ρ 3 k = ν 1 (8 + 5 * k + 2)) ∧
  (∀ k, k < 9 → ρ 4 k = ν 1 (8 + 5 * k + 3)) ∧
  (∀ k, k < 9 → ρ 5 k = ν 1 (8 + 5 * k + 4)) ∧
  (ρ 0 5 = ν 1 1) ∧
  (ρ 0 6 = nI q) ∧
  (ν 1 0 = nI q) ∧
  (∀ k, k < 9 → ∃ j, j < 7 ∧ ρ 1 k = nI j) ∧
  (∀ k, k < 9 → ∃ j, j < 10 ∧ ρ 2 k = nI j) ∧
  (∀ k, k < 9 → ∃ j, j < 9 ∧ ρ 3 k = nI j) ∧
  (∀ p, p < 9 → ∃ k, k < 9 ∧ ρ 3 k = nI p) ∧
  (∀ k, k < 9 → ∃ j, j < 1000 ∧ ρ 4 k = nI j) ∧
  (∀ k, k < 9 → ρ 5 k = -1 ∨ 0 ≤ ρ 5 k) ∧
  (∃ j, j < 10 ∧ ρ 0 5 = nI j) ∧
  (LR 0 (sub [6, 7, 8, 9] ρ) ν) ∧
  (LR 1 (sub [10, 11, 12, 13] ρ) ν)
theorem RR.kd {q : Nat} {ρ ν : Mem} (h : RR q ρ ν) : ∀ k, k < 9 → ρ 1 k = ν 1 (8 + 5 * k + 0) := h.1
theorem RR.mm {q : Nat} {ρ ν : Mem} (h : RR q ρ ν) : ∀ k, k < 9 → ρ 2 k = ν 1 (8 + 5 * k + 1) := h.2.1
theorem RR.po {q : Nat} {ρ ν : Mem} (h : RR q ρ ν) : ∀ k, k < 9 → ρ 3 k = ν 1 (8 + 5 * k + 2) := h.2.2.1
theorem RR.le {q : Nat} {ρ ν : Mem} (h : RR q ρ ν) : ∀ k, k < 9 → ρ 4 k = ν 1 (8 + 5 * k + 3) := h.2.2.2.1
theorem RR.ou {q : Nat} {ρ ν : Mem} (h : RR q ρ ν) : ∀ k, k < 9 → ρ 5 k = ν 1 (8 + 5 * k + 4) := h.2.2.2.2.1
theorem RR.sun {q : Nat} {ρ ν : Mem} (h : RR q ρ ν) : ρ 0 5 = ν 1 1 := h.2.2.2.2.2.1
theorem RR.mi {q : Nat} {ρ ν : Mem} (h : RR q ρ ν) : ρ 0 6 = nI q := h.2.2.2.2.2.2.1
theorem RR.mj {q : Nat} {ρ ν : Mem} (h : RR q ρ ν) : ν 1 0 = nI q := h.2.2.2.2.2.2.2.1
theorem RR.kb {q : Nat} {ρ ν : Mem} (h : RR q ρ ν) : ∀ k, k < 9 → ∃ j, j < 7 ∧ ρ 1 k = nI j := h.2.2.2.2.2.2.2.2.1
theorem RR.mb {q : Nat} {ρ ν : Mem} (h : RR q ρ ν) : ∀ k, k < 9 → ∃ j, j < 10 ∧ ρ 2 k = nI j := h.2.2.2.2.2.2.2.2.2.1
theorem RR.pb {q : Nat} {ρ ν : Mem} (h : RR q ρ ν) : ∀ k, k < 9 → ∃ j, j < 9 ∧ ρ 3 k = nI j := h.2.2.2.2.2.2.2.2.2.2.1
theorem RR.pp {q : Nat} {ρ ν : Mem} (h : RR q ρ ν) : ∀ p, p < 9 → ∃ k, k < 9 ∧ ρ 3 k = nI p := h.2.2.2.2.2.2.2.2.2.2.2.1
theorem RR.lb {q : Nat} {ρ ν : Mem} (h : RR q ρ ν) : ∀ k, k < 9 → ∃ j, j < 1000 ∧ ρ 4 k = nI j := h.2.2.2.2.2.2.2.2.2.2.2.2.1
theorem RR.ob {q : Nat} {ρ ν : Mem} (h : RR q ρ ν) : ∀ k, k < 9 → ρ 5 k = -1 ∨ 0 ≤ ρ 5 k := h.2.2.2.2.2.2.2.2.2.2.2.2.2.1
theorem RR.sb {q : Nat} {ρ ν : Mem} (h : RR q ρ ν) : ∃ j, j < 10 ∧ ρ 0 5 = nI j := h.2.2.2.2.2.2.2.2.2.2.2.2.2.2.1
theorem RR.w0 {q : Nat} {ρ ν : Mem} (h : RR q ρ ν) : LR 0 (sub [6, 7, 8, 9] ρ) ν := h.2.2.2.2.2.2.2.2.2.2.2.2.2.2.2.1
theorem RR.w1 {q : Nat} {ρ ν : Mem} (h : RR q ρ ν) : LR 1 (sub [10, 11, 12, 13] ρ) ν := h.2.2.2.2.2.2.2.2.2.2.2.2.2.2.2.2
/-- what a row's work may change -/
abbrev Fr (ρ ν ρ' ν' : Mem) : Prop :=
  (Off [0, 4, 5, 7, 11] ρ ρ') ∧
  (∀ i, i ≠ 6 → ρ' 0 i = ρ 0 i) ∧
  (Off [1, 6, 7] ν ν') ∧
  (∀ i, i ≠ 0 → ¬ (8 ≤ i ∧ i < 53 ∧ (i - 8) % 5 ≥ 3) → ν' 1 i = ν 1 i)
theorem Fr.a {ρ ν ρ' ν' : Mem} (h : Fr ρ ν ρ' ν') : Off [0, 4, 5, 7, 11] ρ ρ' := h.1
theorem Fr.b {ρ ν ρ' ν' : Mem} (h : Fr ρ ν ρ' ν') : ∀ i, i ≠ 6 → ρ' 0 i = ρ 0 i := h.2.1
theorem Fr.c {ρ ν ρ' ν' : Mem} (h : Fr ρ ν ρ' ν') : Off [1, 6, 7] ν ν' := h.2.2.1
theorem Fr.d {ρ ν ρ' ν' : Mem} (h : Fr ρ ν ρ' ν') : ∀ i, i ≠ 0 → ¬ (8 ≤ i ∧ i < 53 ∧ (i - 8) % 5 ≥ 3) → ν' 1 i = ν 1 i := h.2.2.2
theorem Fr.refl (ρ ν : Mem) : Fr ρ ν ρ ν := ⟨Off.refl _ _, fun _ _ => rfl, Off.refl _ _, fun _ _ _ => rfl⟩
theorem Fr.trans {ρ ν ρ1 ν1 ρ2 ν2 : Mem} (h : Fr ρ ν ρ1 ν1) (k : Fr ρ1 ν1 ρ2 ν2) : Fr ρ ν ρ2 ν2 :=
  ⟨h.a.trans k.a, fun i hi => (k.b i hi).trans (h.b i hi), h.c.trans k.c, fun i hi hj => (k.d i hi hj).trans (h.d i hi hj)⟩
theorem LR.frame {u : Nat} {lam lam' ν ν' : Mem} (h : LR u lam ν) (h0 : lam' 0 3 = lam 0 3) (h2 : lam' 2 = lam 2) (h1 : ∀ i, 53 ≤ i → ν' 1 i = ν 1 i) : LR u lam' ν' := by
  obtain ⟨n, a, b, c, dep, d, e⟩ := h
  refine ⟨n, a, h0.trans b, (h1 _ (by omega)).trans c, dep, d, fun j hj => ?_⟩
  rw [h2, h1 _ (by omega), h1 _ (by omega)]
  exact e j hj
/-- behind a change that keeps the frame only left, out and the minute are to be shown -/
theorem RR.step {q q' : Nat} {ρ ν ρ' ν' : Mem} (h : RR q ρ ν) (f : Fr ρ ν ρ' ν') (hm : ρ' 0 6 = nI q') (hm' : ν' 1 0 = nI q')
    (hl : ∀ k, k < 9 → ρ' 4 k = ν' 1 (8 + 5 * k + 3)) (ho : ∀ k, k < 9 → ρ' 5 k = ν' 1 (8 + 5 * k + 4))
    (lb : ∀ k, k < 9 → ∃ j, j < 1000 ∧ ρ' 4 k = nI j) (ob : ∀ k, k < 9 → ρ' 5 k = -1 ∨ 0 ≤ ρ' 5 k) : RR q' ρ' ν' := by
  have e1 : ρ' 1 = ρ 1 := f.a 1 (by decide)
  have e2 : ρ' 2 = ρ 2 := f.a 2 (by decide)
  have e3 : ρ' 3 = ρ 3 := f.a 3 (by decide)
  have e5 : ρ' 0 5 = ρ 0 5 := f.b 5 (by decide)
  refine ⟨fun k hk => ?_, fun k hk => ?_, fun k hk => ?_, hl, ho, ?_, hm, hm', ?_, ?_, ?_, ?_, lb, ob, ?_, ?_, ?_⟩
  · rw [e1, h.kd k hk, f.d _ (by omega) (by omega)]
  · rw [e2, h.mm k hk, f.d _ (by omega) (by omega)]
  · rw [e3, h.po k hk, f.d _ (by omega) (by omega)]
  · rw [e5, h.sun, f.d _ (by omega) (by omega)]
  · rw [e1]; exact h.kb
  · rw [e2]; exact h.mb
  · rw [e3]; exact h.pb
  · rw [e3]; exact h.pp
  · rw [e5]; exact h.sb
  · refine h.w0.frame ?_ ?_ (fun i hi => f.d i (by omega) (by omega))
    · show ρ' 6 3 = ρ 6 3; rw [f.a 6 (by decide)]
    · show ρ' 8 = ρ 8; rw [f.a 8 (by decide)]
  · refine h.w1.frame ?_ ?_ (fun i hi => f.d i (by omega) (by omega))
    · show ρ' 10 3 = ρ 10 3; rw [f.a 10 (by decide)]
    · show ρ' 12 = ρ 12; rw [f.a 12 (by decide)]
