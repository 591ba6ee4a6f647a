def BN (nu : Mem) : Mem := upA (upA nu 0 (upd (nu 0) 6 ((nu 0 6) + (1 : Int32)))) 0 (upd ((upA nu 0 (upd (nu 0) 6 ((nu 0 6) + (1 : Int32)))) 0) 5 (((upA nu 0 (upd (nu 0) 6 ((nu 0 6) + (1 : Int32)))) 0 5) + (1 : Int32)))
def DN (nu : Mem) : Mem := upA nu 0 (upd (nu 0) 6 ((nu 0 6) - (1 : Int32)))
theorem open_ok {u n d p c D : Nat} {lam nu : Mem} (h : PS u n d p c D lam nu) (hp : p < n) : PS u n (d + 1) (p + 1) c D (AL lam) (BN nu) ∧ FP lam nu (AL lam) (BN nu) := by
  obtain ⟨⟨q8, q5, q1, q6, qc5, qc7, qcp, qdp, qco⟩, f⟩ := adv h hp
  obtain ⟨h8, h5, h1, h6, c5, c7, cp, dp, co⟩ := h
  have an : ∀ i, i ≠ 5 → i ≠ 6 → BN nu 0 i = nu 0 i := fun i hi hj => by unfold BN; rw [upA_s, upd_o _ _ hi, upA_s, upd_o _ _ hj]
  have b5 : BN nu 5 = nu 5 := by unfold BN; rw [upA_o _ _ (by decide), upA_o _ _ (by decide)]
  have a5 : AN nu 5 = nu 5 := by unfold AN; rw [upA_o _ _ (by decide)]
  refine ⟨⟨q8, ?_, q1, ?_, qc5, ?_, qcp, qdp, ?_⟩, f.1, f.2.1, (Off.upA (by decide)).trans (Off.upA (by decide)), fun i h5 h6 _ => an i h5 h6⟩
  · unfold BN; rw [upA_s, upd_s, upA_s, upd_o _ _ (by decide), h5, nI_1]
  · unfold BN; rw [upA_s, upd_o _ _ (by decide), upA_s, upd_s, h6, nI_1]
  · rw [an 7 (by decide) (by decide)]; exact c7
  · rw [b5, ← a5]; exact qco
theorem shut_ok {u n d p c D : Nat} {lam nu : Mem} (hd : d < 5) (h : PS u n (d + 1) p c D lam nu) : PS u n d p c D lam (DN nu) ∧ FP lam nu lam (DN nu) := by
  obtain ⟨h8, h5, h1, h6, c5, c7, cp, dp, co⟩ := h
  have an : ∀ i, i ≠ 6 → DN nu 0 i = nu 0 i := fun i hi => by unfold DN; rw [upA_s, upd_o _ _ hi]
  have b5 : DN nu 5 = nu 5 := by unfold DN; rw [upA_o _ _ (by decide)]
  refine ⟨⟨h8, ?_, h1, ?_, c5, ?_, cp, dp, ?_⟩, Off.refl _ _, fun _ _ _ => rfl, Off.upA (by decide), fun i _ h6 _ => an i h6⟩
  · rw [an 5 (by decide)]; exact h5
  · unfold DN; rw [upA_s, upd_s, h6, show (1 : Int32) = nI 1 from rfl, nI_subI (by omega), Nat.add_sub_cancel]
  · rw [an 7 (by decide)]; exact c7
  · rw [b5]; exact co
/-- how a unit ends -/
abbrev RU (u n d p c D : Nat) (lam nu : Mem) (a b : Mem × Int32) : Prop := FP lam nu a.1 b.1 ∧ ((a.2 = 0 ∧ b.2 = 0 ∧ FL n a.1 b.1) ∨
    (a.2 = 1 ∧ b.2 = 1 ∧ ∃ p' c', p < p' ∧ c' + p ≤ p' + c ∧ PS u n d p' c' (D + 1) a.1 b.1))
theorem PS.fl {u n d p c D : Nat} {lam nu : Mem} (hn : n ≤ 60) (h : PS u n d p c D lam nu) : FL n lam nu := by
  obtain ⟨h8, h5, h1, h6, c5, c7, cp, dp, co⟩ := h
  exact ⟨p, c, h1, by omega, h8, h5, c5⟩
theorem PS.no {u n d p c D : Nat} {lam nu : Mem} (hn : n ≤ 60) (h : PS u n d p c D lam nu) : Sim (RU u n d p c D lam nu) (some (lam, (0 : Int32))) (some (nu, (0 : Int32))) :=
  Sim.pure ⟨FP.refl _ _, Or.inl ⟨rfl, rfl, h.fl hn⟩⟩
/-- a name -/
theorem name_ok {u n d p c D k : Nat} {lam nu : Mem} {s v : Int32} {rc : RT_Lt} (t : TP u n lam nu) (h : PS u n d p c D lam nu) (e1 : f_X1_nextSign lam = some (lam, s)) (sg : SG p n s v)
    (hk : k = 109 ∨ k = 112 ∨ k = if u = 0 then 115 else 100) (hs : s = nI k) :
    Sim (RU u n d p c D lam nu) (f_X1_readUnit_L42 rc lam) ((f_X12_step1 (AN nu) (1 : Int32) v).bind fun q => some (q, (1 : Int32))) := by
  have hk7 : k < 128 := by
    rcases hk with h | h | h
    · omega
    · omega
    · rw [h]; split <;> omega
  have hv : v = nI k := (sg.eq hk7).mp hs
  have hp := sg.lt hk7 hv
  have hn := t.2.1
  obtain ⟨h', f'⟩ := adv h hp
  have hc : c ≤ p := h.2.2.2.2.2.2.1
  have hD : D ≤ p := h.2.2.2.2.2.2.2.1
  have sk : StepOK u (-(nI k)) 1 (nI k) D (D + 1) := by
    refine Or.inr (Or.inl ⟨?_, rfl, rfl, by omega, rfl⟩)
    rcases hk with h | h | h
    · exact Or.inl (by rw [h])
    · exact Or.inr (Or.inl (by rw [h]))
    · exact Or.inr (Or.inr (by rw [h]))
  obtain ⟨l, w, w1, w2, w3, w4⟩ := wrt hn h' (by omega) sk (by omega)
  unfold f_X1_readUnit_L42
  rw [take_k e1, hv, hs]
  simp only [Option.bind_some]
  rw [w1, w2]
  exact Sim.pure ⟨f'.trans w4, Or.inr ⟨rfl, rfl, p + 1, c + 1, by omega, by omega, w3⟩⟩
theorem isn_k {nu : Mem} {u : Nat} {v : Int32} (hu : u < 2) (h8 : nu 0 8 = nI u) : f_X12_isName nu v = some (nu, if v = 109 ∨ v = 112 ∨ v = nI (if u = 0 then 115 else 100) then 1 else 0) := by
  unfold f_X12_isName
  rw [h8]
  by_cases a : v = 109
  · rw [if_pos a, if_pos (Or.inl a)]
  · by_cases b : v = 112
    · rw [if_neg a, if_pos b, if_pos (Or.inr (Or.inl b))]
    · rw [if_neg a, if_neg b]
      have : u = 0 ∨ u = 1 := by omega
      rcases this with e | e <;> subst e
      · rw [if_pos (show nI 0 = 0 from rfl), if_pos (show (0 : Nat) = 0 from rfl)]
        by_cases c : v = nI 115
        · rw [if_pos (show v = 115 from c), if_pos (Or.inr (Or.inr c))]
        · rw [if_neg (show ¬ v = 115 from c), if_neg (fun h => by
            rcases h with h | h | h
            · exact a h
            · exact b h
            · exact c h)]
      · rw [if_neg (show ¬ nI 1 = 0 by decide), if_neg (show ¬ (1 : Nat) = 0 by decide)]
        by_cases c : v = nI 100
        · rw [if_pos (show v = 100 from c), if_pos (Or.inr (Or.inr c))]
        · rw [if_neg (show ¬ v = 100 from c), if_neg (fun h => by
            rcases h with h | h | h
            · exact a h
            · exact b h
            · exact c h)]
/-- a number -/
theorem numb_ok {u n d p c D : Nat} {lam nu : Mem} {s v : Int32} {rm : RT_Mt} (t : TP u n lam nu) (h : PS u n d p c D lam nu) (e1 : f_X1_nextSign lam = some (lam, s)) (e2 : f_X12_look nu = some (nu, v))
    {w : Nat} (hp : p < n) (hw : w < 10) (hs : s = nI (48 + w)) (hv : v = nI (48 + w)) (s1 : ¬ s < 48) (s2 : ¬ 57 < s) (hd : f_X12_in v (48 : Int32) (57 : Int32) = some 1) :
    Sim (RU u n d p c D lam nu) ((f_X1_readNumber lam).bind fun q14 => some (q14, (1 : Int32))) (f_X12_one_L46 rm fuel0 nu (0 : Int32) (0 : Int32)) := by
  obtain ⟨m, hm, hm4⟩ : ∃ m, fuel0 = m + 1 ∧ 10 < m := ⟨fuel0 - 1, by have := fuel_big; omega, by have := fuel_big; omega⟩
  have hc : c ≤ p := h.2.2.2.2.2.2.1
  have hD : D ≤ p := h.2.2.2.2.2.2.2.1
  unfold f_X1_readNumber
  rw [hm, f_X1_readNumber_L4, f_X12_one_L46, if_neg (show ¬ (4 : Int32) ≤ 0 by decide), if_neg (show ¬ (4 : Int32) ≤ 0 by decide), e2]
  rw [sd_yes e1 s1 s2]
  simp only [Option.bind_some]
  rw [hd]
  simp only [Option.bind_some]
  rw [if_neg (show ¬ (1 : Int32) = 0 by decide), if_neg (show ¬ (1 : Int32) = 0 by decide), take_k e1, e2]
  simp only [Option.bind_some, bd]
  obtain ⟨h', f'⟩ := adv h hp
  have a1 : (((0 : Int32) * (10 : Int32)) + s) - (48 : Int32) = nI w := by
    rw [hs, Int32.zero_mul, Int32.zero_add, show (48 : Int32) = nI 48 from rfl, nI_subI (by omega)]
    congr 1; omega
  have a2 : (((10 : Int32) * 0) + v) - (48 : Int32) = nI w := by
    rw [hv, Int32.mul_zero, Int32.zero_add, show (48 : Int32) = nI 48 from rfl, nI_subI (by omega)]
    congr 1; omega
  rw [a1, a2, Int32.zero_add, show (1 : Int32) = nI 1 from rfl]
  refine (num_L (rm := rm) 3 1 (p + 1) c D w (AL lam) (AN nu) m m (by omega) (by omega) (by omega) (t.fp f') h' (by omega) (by omega) (by omega) (by omega)).bindl ?_
  rintro a ⟨b, z⟩ ⟨f2, b2, p', c', x1, x2, x3⟩
  exact Sim.pure ⟨f'.trans f2, Or.inr ⟨rfl, b2, p', c', by omega, by omega, x3⟩⟩
theorem n10 : ¬ (1 : Int32) = 0 := by decide
