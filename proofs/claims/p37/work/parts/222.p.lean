theorem RR.sunp {q : Nat} {ρ ν : Mem} (h : RR q ρ ν) {j : Nat} (hj : j < 10) : RR q (upA ρ 0 (upd (ρ 0) 5 (nI j))) (upA ν 1 (upd (ν 1) 1 (nI j))) := by
  refine ⟨?_, ?_, ?_, ?_, ?_, ?_, ?_, ?_, h.kb, h.mb, h.pb, h.pp, h.lb, h.ob, ?_, ?_, ?_⟩
  · intro k hk; rw [upA_o _ _ (by decide), upA_s, upd_o _ _ (by omega)]; exact h.kd k hk
  · intro k hk; rw [upA_o _ _ (by decide), upA_s, upd_o _ _ (by omega)]; exact h.mm k hk
  · intro k hk; rw [upA_o _ _ (by decide), upA_s, upd_o _ _ (by omega)]; exact h.po k hk
  · intro k hk; rw [upA_o _ _ (by decide), upA_s, upd_o _ _ (by omega)]; exact h.le k hk
  · intro k hk; rw [upA_o _ _ (by decide), upA_s, upd_o _ _ (by omega)]; exact h.ou k hk
  · rw [upA_s, upA_s, upd_s, upd_s]
  · rw [upA_s, upd_o _ _ (by decide)]; exact h.mi
  · rw [upA_s, upd_o _ _ (by decide)]; exact h.mj
  · rw [upA_s, upd_s]; exact ⟨j, hj, rfl⟩
  · exact h.w0.frame rfl rfl (fun i hi => by rw [upA_s, upd_o _ _ (by omega)])
  · exact h.w1.frame rfl rfl (fun i hi => by rw [upA_s, upd_o _ _ (by omega)])
theorem RR.kindp {q : Nat} {ρ ν : Mem} (h : RR q ρ ν) {k j : Nat} (hk : k < 9) (hj : j < 7) : RR q (upA ρ 1 (upd (ρ 1) k (nI j))) (upA ν 1 (upd (ν 1) (8 + 5 * k + 0) (nI j))) := by
  refine ⟨?_, ?_, ?_, ?_, ?_, ?_, ?_, ?_, ?_, h.mb, h.pb, h.pp, h.lb, h.ob, h.sb, ?_, ?_⟩
  · intro i hi
    rw [upA_s, upA_s]
    by_cases e : i = k
    · rw [e, upd_s, upd_s]
    · rw [upd_o _ _ e, upd_o _ _ (by omega)]; exact h.kd i hi
  · intro k hk; rw [upA_o _ _ (by decide), upA_s, upd_o _ _ (by omega)]; exact h.mm k hk
  · intro k hk; rw [upA_o _ _ (by decide), upA_s, upd_o _ _ (by omega)]; exact h.po k hk
  · intro k hk; rw [upA_o _ _ (by decide), upA_s, upd_o _ _ (by omega)]; exact h.le k hk
  · intro k hk; rw [upA_o _ _ (by decide), upA_s, upd_o _ _ (by omega)]; exact h.ou k hk
  · rw [upA_o _ _ (by decide), upA_s, upd_o _ _ (by omega)]; exact h.sun
  · rw [upA_o _ _ (by decide)]; exact h.mi
  · rw [upA_s, upd_o _ _ (by omega)]; exact h.mj
  · intro i hi
    rw [upA_s]
    by_cases e : i = k
    · rw [e, upd_s]; exact ⟨j, hj, rfl⟩
    · rw [upd_o _ _ e]; exact h.kb i hi
  · exact h.w0.frame rfl rfl (fun i hi => by rw [upA_s, upd_o _ _ (by omega)])
  · exact h.w1.frame rfl rfl (fun i hi => by rw [upA_s, upd_o _ _ (by omega)])
theorem RR.mp {q : Nat} {ρ ν : Mem} (h : RR q ρ ν) {k j : Nat} (hk : k < 9) (hj : j < 10) : RR q (upA ρ 2 (upd (ρ 2) k (nI j))) (upA ν 1 (upd (ν 1) (8 + 5 * k + 1) (nI j))) := by
  refine ⟨?_, ?_, ?_, ?_, ?_, ?_, ?_, ?_, h.kb, ?_, h.pb, h.pp, h.lb, h.ob, h.sb, ?_, ?_⟩
  · intro k hk; rw [upA_o _ _ (by decide), upA_s, upd_o _ _ (by omega)]; exact h.kd k hk
  · intro i hi
    rw [upA_s, upA_s]
    by_cases e : i = k
    · rw [e, upd_s, upd_s]
    · rw [upd_o _ _ e, upd_o _ _ (by omega)]; exact h.mm i hi
  · intro k hk; rw [upA_o _ _ (by decide), upA_s, upd_o _ _ (by omega)]; exact h.po k hk
  · intro k hk; rw [upA_o _ _ (by decide), upA_s, upd_o _ _ (by omega)]; exact h.le k hk
  · intro k hk; rw [upA_o _ _ (by decide), upA_s, upd_o _ _ (by omega)]; exact h.ou k hk
  · rw [upA_o _ _ (by decide), upA_s, upd_o _ _ (by omega)]; exact h.sun
  · rw [upA_o _ _ (by decide)]; exact h.mi
  · rw [upA_s, upd_o _ _ (by omega)]; exact h.mj
  · intro i hi
    rw [upA_s]
    by_cases e : i = k
    · rw [e, upd_s]; exact ⟨j, hj, rfl⟩
    · rw [upd_o _ _ e]; exact h.mb i hi
  · exact h.w0.frame rfl rfl (fun i hi => by rw [upA_s, upd_o _ _ (by omega)])
  · exact h.w1.frame rfl rfl (fun i hi => by rw [upA_s, upd_o _ _ (by omega)])
theorem sun_op {μ ν : Mem} (h : NR μ ν) (x : Int32) : Sim (OR μ ν) (f_X11_sun μ x) (f_X12_sun ν x) := by
  unfold f_X11_sun f_X12_sun
  rw [in_same]
  rcases in_cases x (n := 9) (by omega) with e | ⟨e, j, hj, rfl⟩
  · rw [show (9 : Int32) = nI 9 from rfl, e]
    exact errs_ok h (c := 1) (by omega)
  · rw [show (9 : Int32) = nI 9 from rfl, e]
    obtain ⟨⟨q, hq, r⟩, z⟩ := id h
    simp only [Option.bind_some, bd]
    rw [if_neg (show ¬ (1 : Int32) = 0 by decide), if_neg (show ¬ (1 : Int32) = 0 by decide)]
    unfold f_X12_change1
    have i1 : inb (1 : Int32) 387 = true := by decide
    simp only [bd]
    rw [if_pos i1, if_pos i1, show (1 : Int32).toNatClampNeg = 1 by decide]
    simp only [Option.bind_some]
    refine Sim.pure ⟨r.sun, ?_, FT.one _ _ (by decide) (by omega)⟩
    have e23 : sub PN (upA μ 23 (upd (μ 23) 5 (nI j))) = upA (sub PN μ) 0 (upd (sub PN μ 0) 5 (nI j)) := sub_23 _ _
    show NR (upA μ 23 (upd (μ 23) 5 (nI j))) _
    unfold NR
    rw [e23]
    exact ⟨⟨q, hq, r.sunp (by omega)⟩, z⟩
theorem again_op {μ ν : Mem} (h : NR μ ν) (x y : Int32) : Sim (OR μ ν) (f_X11_again μ x y) (f_X12_again ν x y) := by
  unfold f_X11_again f_X12_again
  rcases one_cases x with ⟨e1, -, e3⟩ | ⟨e1, -, e3, k, hk, rfl⟩
  · rw [e1, e3]
    exact errs_ok h (c := 1) (by omega)
  · rw [e1, e3, in_same]
    simp only [Option.bind_some]
    rw [if_neg (show ¬ (1 : Int32) = 0 by decide), if_neg (show ¬ (1 : Int32) = 0 by decide)]
    have c : (f_X11_within y (1 : Int32) (999 : Int32) = some 0) ∨ (f_X11_within y (1 : Int32) (999 : Int32) = some 1 ∧ ∃ k, 1 ≤ k ∧ k ≤ 999 ∧ y = nI k) := by
      unfold f_X11_within
      by_cases h0 : y < 1
      · rw [if_pos h0]; exact Or.inl rfl
      · rw [if_neg h0]
        have h00 : ¬ y < 0 := fun h => h0 (Int32.lt_trans h (by decide))
        obtain ⟨k, hk, rfl⟩ := nI_of h00
        by_cases h1 : (999 : Int32) < nI k
        · rw [if_pos h1]; exact Or.inl rfl
        · rw [if_neg h1]
          rw [show (999 : Int32) = nI 999 from rfl, nI_ltI (by omega) hk] at h1
          rw [show (1 : Int32) = nI 1 from rfl, nI_ltI hk (by omega)] at h0
          exact Or.inr ⟨rfl, k, by omega, by omega, rfl⟩
    rcases c with e | ⟨e, l, l1, l2, rfl⟩
    · rw [e]
      exact errs_ok h (c := 1) (by omega)
    · rw [e]
      obtain ⟨⟨q, hq, r⟩, z⟩ := id h
      simp only [Option.bind_some]
      rw [if_neg (show ¬ (1 : Int32) = 0 by decide), if_neg (show ¬ (1 : Int32) = 0 by decide), st4 hk (r.ob k hk), st12 hk, ← r.ou k hk]
      simp only [Option.bind_some, bd, put_self]
      rw [show (if sub PN μ 5 k = -1 then (1 : Int32) else 0) = stB (sub PN μ) k from rfl]
      by_cases hs : stB (sub PN μ) k = 0
      · rw [if_pos hs, if_pos hs, if_pos (in_k hk (by omega)), if_pos (in_k hk (by omega)), cl_I (show k < 2 ^ 31 by omega),
          show f_X12_lays1 ν (nI k) (3 : Int32) (nI l) = _ from lays_k ν 3 (nI l) hk (by omega)]
        simp only [Option.bind_some]
        rw [show ∀ ν', f_X12_lays1 ν' (nI k) (4 : Int32) (-1 : Int32) = _ from fun ν' => lays_k ν' 4 (-1 : Int32) hk (by omega)]
        simp only [Option.bind_some]
        obtain ⟨r1, f1⟩ := r.left hk (show l < 1000 by omega)
        obtain ⟨r2, f2⟩ := r1.out hk (Or.inl rfl : (-1 : Int32) = -1 ∨ 0 ≤ (-1 : Int32))
        have com : upA (upA μ 28 (upd (μ 28) k (-1 : Int32))) 27 (upd (upA μ 28 (upd (μ 28) k (-1 : Int32)) 27) k (nI l))
            = upA (upA μ 27 (upd (μ 27) k (nI l))) 28 (upd (upA μ 27 (upd (μ 27) k (nI l)) 28) k (-1 : Int32)) := by
          funext c
          by_cases h1 : c = 27
          · subst h1; rw [upA_s, upA_o _ _ (by decide), upA_o _ _ (by decide), upA_s]
          · by_cases h2 : c = 28
            · subst h2; rw [upA_o _ _ (by decide), upA_s, upA_s, upA_o _ _ (by decide)]
            · rw [upA_o _ _ h1, upA_o _ _ h2, upA_o _ _ h2, upA_o _ _ h1]
        rw [com]
        refine Sim.pure ⟨rfl, ?_, (FT.one _ _ (by decide) (by omega)).trans (FT.one _ _ (by decide) (by omega))⟩
        have e27 : sub PN (upA μ 27 (upd (μ 27) k (nI l))) = upA (sub PN μ) 4 (upd (sub PN μ 4) k (nI l)) := sub_27 _ _
        have e28 : sub PN (upA (upA μ 27 (upd (μ 27) k (nI l))) 28 (upd (upA μ 27 (upd (μ 27) k (nI l)) 28) k (-1 : Int32)))
            = upA (sub PN (upA μ 27 (upd (μ 27) k (nI l)))) 5 (upd (sub PN (upA μ 27 (upd (μ 27) k (nI l))) 5) k (-1 : Int32)) := sub_28 _ _
        unfold NR
        rw [e28, e27]
        refine ⟨⟨q, hq, r2⟩, fun i hi h5 => ?_⟩
        rw [upA_o _ _ (by decide), upA_s]
        by_cases e : i = k
        · rw [e, upd_s]; exact nI_ne0 (by omega) (by omega)
        · rw [upd_o _ _ e]
          refine z i hi ?_
          rw [upA_s, upd_o _ _ e, upA_o _ _ (by decide)] at h5
          exact h5
      · rw [if_neg hs, if_neg hs]
        exact errs_ok h (c := 3) (by omega)
