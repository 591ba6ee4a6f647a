theorem comp_op {u n d p c D k : Nat} {lam nu : Mem} {s v : Int32} {rc : RT_Lt} {rm : RT_Mt} (ok : OKP u n d rc.2.2.2.1 rm.2.2.2.1) (t : TP u n lam nu) (h : PS u n d p c D lam nu) (hD : 1 ≤ D)
    (e1 : f_X1_nextSign lam = some (lam, s)) (sg : SG p n s v) (hk : 0 < k ∧ k < 128 ∧ k ≠ 33 ∧ k ≠ 100 ∧ k ≠ 109 ∧ k ≠ 112 ∧ k ≠ 115) (hs : s = nI k) (hv : v = nI k) :
    Sim (RLx u n d p c D lam nu) (f_X1_readCompared_L37 rc lam (nI d)) (f_X12_compared_L34 rm nu v) := by
  unfold f_X1_readCompared_L37 f_X12_compared_L34
  rw [take_k e1, hv, hs]
  simp only [Option.bind_some, bd]
  refine op_ok ok t h hD (sg.lt hk.2.1 hv) hk (K := fun w x => if x = 0 ∨ x = 1 then some (w, x) else none) (K' := fun w => some (w, (1 : Int32))) ?_ ?_
  · intro w
    show (if (0 : Int32) = 0 ∨ (0 : Int32) = 1 then some (w, (0 : Int32)) else none) = _
    rw [if_pos (Or.inl rfl)]
  · intro w w' p' c' h1 h2 h3 h4
    show Sim _ (if (1 : Int32) = 0 ∨ (1 : Int32) = 1 then some (w, (1 : Int32)) else none) _
    rw [if_pos (Or.inr rfl)]
    exact Sim.pure ⟨FP.refl _ _, Or.inr ⟨rfl, rfl, p', c', by omega, by omega, h3⟩⟩
theorem comp_k {u n d : Nat} {rc : RT_Lt} {rm : RT_Mt} (ok : OKP u n d rc.2.2.2.1 rm.2.2.2.1) : OKP u n d (f_X1_readCompared_b rc) (f_X12_compared_b rm) := by
  intro lam nu p c D t h
  unfold f_X1_readCompared_b f_X12_compared_b
  refine (ok lam nu p c D t h).bind ?_
  rintro ⟨a, y⟩ ⟨b, z⟩ ⟨f, ⟨e1, e2, fl⟩ | ⟨e1, e2, p', c', q1, q2, q3⟩⟩
  · obtain rfl : y = 0 := e1
    obtain rfl : z = 0 := e2
    rw [if_pos rfl, if_pos (Or.inl rfl), if_pos rfl]
    exact Sim.pure ⟨f, Or.inl ⟨rfl, rfl, fl⟩⟩
  · obtain rfl : y = 1 := e1
    obtain rfl : z = 1 := e2
    have q3' : PS u n d p' c' (D + 1) a b := q3
    have t' := t.fp f
    obtain ⟨s, v, e1, e2, sg⟩ := look_at t' q3'
    rw [if_neg (show ¬ (1 : Int32) = 0 by decide), if_neg (show ¬ (1 : Int32) = 0 by decide)]
    show Sim _ ((f_X1_sees a (60 : Int32)).bind _) ((f_X12_look b).bind _)
    rw [sees_k e1 (60 : Int32), e2]
    simp only [Option.bind_some]
    have fin : ∀ {x y : Option (Mem × Int32)}, Sim (RLx u n d p' c' (D + 1) a b) x y → Sim (fun a b => FP lam nu a.1 b.1 ∧ ((a.2 = 0 ∧ b.2 = 0 ∧ FL n a.1 b.1) ∨
        (a.2 = 1 ∧ b.2 = 1 ∧ ∃ p' c', p < p' ∧ c' + p ≤ p' + c ∧ PS u n d p' c' (D + 1) a.1 b.1))) x y := by
      intro x y hh
      refine hh.mono ?_
      rintro x y ⟨f2, k⟩
      refine ⟨f.trans f2, ?_⟩
      rcases k with k | ⟨k1, k2, p2, c2, k3, k4, k5⟩
      · exact Or.inl k
      · exact Or.inr ⟨k1, k2, p2, c2, by omega, by omega, k5⟩
    apply fin
    by_cases q60 : s = nI 60
    · have v60 : v = nI 60 := (sg.eq (by omega)).mp q60
      rw [if_pos (show s = (60 : Int32) from q60), if_neg (show ¬ (1 : Int32) = 0 by decide), if_pos (show v = (60 : Int32) from v60)]
      exact comp_op ok t' q3' (by omega) e1 sg (k := 60) (by omega) q60 v60
    · have v60 : ¬ v = nI 60 := sg.no (by omega) q60
      rw [if_neg (show ¬ s = (60 : Int32) from q60), if_pos (show (0 : Int32) = 0 from rfl), if_neg (show ¬ v = (60 : Int32) from v60), sees_k e1 (61 : Int32)]
      simp only [Option.bind_some]
      by_cases q61 : s = nI 61
      · have v61 : v = nI 61 := (sg.eq (by omega)).mp q61
        rw [if_pos (show s = (61 : Int32) from q61), if_neg (show ¬ (1 : Int32) = 0 by decide), if_pos (show v = (61 : Int32) from v61)]
        exact comp_op ok t' q3' (by omega) e1 sg (k := 61) (by omega) q61 v61
      · have v61 : ¬ v = nI 61 := sg.no (by omega) q61
        rw [if_neg (show ¬ s = (61 : Int32) from q61), if_pos (show (0 : Int32) = 0 from rfl), if_neg (show ¬ v = (61 : Int32) from v61), sees_k e1 (62 : Int32)]
        simp only [Option.bind_some]
        by_cases q62 : s = nI 62
        · have v62 : v = nI 62 := (sg.eq (by omega)).mp q62
          rw [if_pos (show s = (62 : Int32) from q62), if_neg (show ¬ (1 : Int32) = 0 by decide), if_pos (show v = (62 : Int32) from v62)]
          exact comp_op ok t' q3' (by omega) e1 sg (k := 62) (by omega) q62 v62
        · have v62 : ¬ v = nI 62 := sg.no (by omega) q62
          rw [if_neg (show ¬ s = (62 : Int32) from q62), if_pos (show (0 : Int32) = 0 from rfl), if_neg (show ¬ v = (62 : Int32) from v62), if_pos (Or.inr trivial)]
          exact Sim.pure ⟨FP.refl _ _, Or.inr ⟨rfl, rfl, p', c', by omega, by omega, q3'⟩⟩
theorem sd_no {lam : Mem} {s : Int32} (e1 : f_X1_nextSign lam = some (lam, s)) (hs : s < 48 ∨ 57 < s) : f_X1_seesDigit lam = some (lam, 0) := by
  unfold f_X1_seesDigit
  rw [e1]
  simp only [Option.bind_some]
  by_cases a : s < 48
  · rw [if_pos a]
  · have : (57 : Int32) < s := by
      rcases hs with h | h
      · exact absurd h a
      · exact h
    rw [if_neg a, e1]
    simp only [Option.bind_some]
    rw [if_pos this]
theorem sd_yes {lam : Mem} {s : Int32} (e1 : f_X1_nextSign lam = some (lam, s)) (s1 : ¬ s < 48) (s2 : ¬ 57 < s) : f_X1_seesDigit lam = some (lam, 1) := by
  unfold f_X1_seesDigit
  rw [e1]
  simp only [Option.bind_some]
  rw [if_neg s1, e1]
  simp only [Option.bind_some]
  rw [if_neg s2]
/-- numbers: m as read so far, k figures -/
theorem num_L {u n d : Nat} {rm : RT_Mt} : ∀ (r k p c D m : Nat) (lam nu : Mem) (f g : Nat), k + r = 4 → r < f → r < g → TP u n lam nu → PS u n d p c D lam nu → m < 10 ^ k → 1 ≤ k → c + k ≤ p → D < p →
    Sim (fun a b => FP lam nu a b.1 ∧ b.2 = 1 ∧ ∃ p' c', p ≤ p' ∧ c' + p ≤ p' + c + 1 ∧ PS u n d p' c' (D + 1) a b.1)
      (f_X1_readNumber_L4 f lam (nI m) (nI k)) (f_X12_one_L46 rm g nu (nI m) (nI k)) := by
  intro r
  induction r with
  | zero =>
    intro k p c D m lam nu f g hk hf hg t h hm h1 hc hD
    obtain ⟨f, rfl⟩ : ∃ f', f = f' + 1 := ⟨f - 1, by omega⟩
    obtain ⟨g, rfl⟩ : ∃ g', g = g' + 1 := ⟨g - 1, by omega⟩
    obtain rfl : k = 4 := by omega
    have hn := t.2.1
    have hp : p ≤ n := h.2.2.1
    obtain ⟨l, w, w1, w2, w3, w4⟩ := wrt (v := nI m) (a := 0) (b := nI m) hn h (by omega) (Or.inl ⟨nI_pos' (by omega), rfl, rfl, by omega, rfl⟩) (by omega)
    rw [f_X1_readNumber_L4, f_X12_one_L46, if_pos (show (4 : Int32) ≤ nI 4 by decide), if_pos (show (4 : Int32) ≤ nI 4 by decide), w1, w2]
    simp only [Option.bind_some]
    exact Sim.pure ⟨w4, rfl, p, c + 1, by omega, by omega, w3⟩
  | succ r ih =>
    intro k p c D m lam nu f g hk hf hg t h hm h1 hc hD
    obtain ⟨f, rfl⟩ : ∃ f', f = f' + 1 := ⟨f - 1, by omega⟩
    obtain ⟨g, rfl⟩ : ∃ g', g = g' + 1 := ⟨g - 1, by omega⟩
    have hn := t.2.1
    have hp : p ≤ n := h.2.2.1
    have m4 : m < 1000 := by
      have : k = 1 ∨ k = 2 ∨ k = 3 := by omega
      rcases this with e | e | e <;> subst e <;> omega
    have k4 : ¬ (4 : Int32) ≤ nI k := by rw [show (4 : Int32) = nI 4 from rfl, nI_leI (by omega) (by omega)]; omega
    obtain ⟨s, v, e1, e2, sg⟩ := look_at t h
    have nx : k + 1 ≤ 4 := by omega
    rw [f_X1_readNumber_L4, f_X12_one_L46, if_neg k4, if_neg k4, e2]
    simp only [Option.bind_some]
    rcases sg.dig with ⟨hs, hv⟩ | ⟨hpn, w, hw, hs, hv, s1, s2, hd⟩
    · rw [hv]
      obtain ⟨l, w, w1, w2, w3, w4⟩ := wrt (v := nI m) (a := 0) (b := nI m) hn h (by omega) (Or.inl ⟨nI_pos' (by omega), rfl, rfl, by omega, rfl⟩) (by omega)
      have fin : Sim (fun a b => FP lam nu a b.1 ∧ b.2 = 1 ∧ ∃ p' c', p ≤ p' ∧ c' + p ≤ p' + c + 1 ∧ PS u n d p' c' (D + 1) a b.1) (some l) (some (w, (1 : Int32))) := Sim.pure ⟨w4, rfl, p, c + 1, by omega, by omega, w3⟩
      rw [sd_no e1 hs]
      simp only [Option.bind_some]
      rw [if_pos trivial, if_pos trivial, w1, w2]
      simp only [Option.bind_some]
      exact fin
    · rw [hd, sd_yes e1 s1 s2]
      simp only [Option.bind_some]
      rw [if_neg (show ¬ (1 : Int32) = 0 by decide), if_neg (show ¬ (1 : Int32) = 0 by decide), take_k e1, e2]
      simp only [Option.bind_some, bd]
      obtain ⟨h', f'⟩ := adv h hpn
      have a1 : ((nI m * (10 : Int32)) + s) - (48 : Int32) = nI (10 * m + w) := by
        rw [hs, show (10 : Int32) = nI 10 from rfl, show (48 : Int32) = nI 48 from rfl, nI_mulI, nI_add, nI_subI (by omega)]
        congr 1; omega
      have a2 : (((10 : Int32) * nI m) + v) - (48 : Int32) = nI (10 * m + w) := by
        rw [hv, show (10 : Int32) = nI 10 from rfl, show (48 : Int32) = nI 48 from rfl, nI_mulI, nI_add, nI_subI (by omega)]
        congr 1; omega
      rw [a1, a2, nI_1]
      have hm' : 10 * m + w < 10 ^ (k + 1) := by rw [Nat.pow_succ]; omega
      refine (ih (k + 1) (p + 1) c D (10 * m + w) (AL lam) (AN nu) f g (by omega) (by omega) (by omega) (t.fp f') h' hm' (by omega) (by omega) (by omega)).mono ?_
      rintro a ⟨b, z⟩ ⟨f2, b2, p', c', x1, x2, x3⟩
      exact ⟨f'.trans f2, b2, p', c', by omega, by omega, x3⟩
