theorem either_L {u n d : Nat} {rc : RT_Lt} {rm : RT_Mt} (ok : OKP u n d rc.2.1 rm.2.1) : ∀ (r p c D k : Nat) (lam nu : Mem) (f g : Nat), p + r = n → r < f → r < g → TP u n lam nu → PS u n d p c D lam nu → 1 ≤ D → k ≤ p →
      Sim (RLx u n d p c D lam nu) (f_X1_readEither_L8 rc f lam (nI d) 1 (nI k)) (f_X12_whole_L9 rm g nu) := by
  intro r
  induction r using Nat.strongRecOn with
  | _ r ih =>
    intro p c D k lam nu f g hr hf hg t h hD hk
    obtain ⟨f, rfl⟩ : ∃ f', f = f' + 1 := ⟨f - 1, by omega⟩
    obtain ⟨g, rfl⟩ : ∃ g', g = g' + 1 := ⟨g - 1, by omega⟩
    obtain ⟨s, v, e1, e2, sg⟩ := look_at t h
    have hn := t.2.1
    have go : ∀ o, (0 < o ∧ o < 128 ∧ o ≠ 33 ∧ o ≠ 100 ∧ o ≠ 109 ∧ o ≠ 112 ∧ o ≠ 115) → v = nI o → Sim (RLx u n d p c D lam nu)
        ((rc.2.1 (AL lam) (nI d)).bind fun q => (f_X1_write q.1 (-(nI o))).bind fun w => f_X1_readEither_L8 rc f w (nI d) q.2 (nI k + 1))
        ((rm.2.1 (AN nu)).bind fun q => if q.2 = 0 then some (q.1, 0) else (f_X12_step1 q.1 (3 : Int32) (nI o)).bind fun w => f_X12_whole_L9 rm g w) := by
      intro o ho hv
      have hp := sg.lt ho.2.1 hv
      refine op_ok ok t h hD hp ho (K := fun w x => f_X1_readEither_L8 rc f w (nI d) x (nI k + 1)) (K' := fun w => f_X12_whole_L9 rm g w) ?_ ?_
      · intro w
        obtain ⟨f, rfl⟩ : ∃ f', f = f' + 1 := ⟨f - 1, by omega⟩
        show f_X1_readEither_L8 rc (f + 1) w (nI d) 0 (nI k + 1) = some (w, 0)
        rw [f_X1_readEither_L8, if_pos rfl, if_pos (Or.inl rfl), ite_self]
      · intro w w' p' c' h1 h2 h3 h4
        show Sim _ (f_X1_readEither_L8 rc f w (nI d) 1 (nI k + 1)) (f_X12_whole_L9 rm g w')
        rw [nI_1]
        have h5 : p' ≤ n := h3.2.2.1
        exact ih (n - p') (by omega) p' c' D (k + 1) w w' f g (by omega) (by omega) (by omega) (t.fp h4) h3 hD (by omega)
    have done : Sim (RLx u n d p c D lam nu) (some (lam, (1 : Int32))) (some (nu, (1 : Int32))) := Sim.pure ⟨FP.refl _ _, Or.inr ⟨rfl, rfl, p, c, by omega, by omega, h⟩⟩
    rw [f_X1_readEither_L8, f_X12_whole_L9, e2]
    simp only [Option.bind_some]
    by_cases hk6 : 60 ≤ k
    · rw [if_pos (show (60 : Int32) ≤ nI k by rw [show (60 : Int32) = nI 60 from rfl, nI_leI (by omega) (by omega)]; exact hk6), if_pos (Or.inr trivial)]
      have hv : v = -1 := by
        rcases sg with ⟨-, h, -⟩ | ⟨h, -⟩
        · exact h
        · omega
      subst hv
      rw [if_neg (show ¬ (-1 : Int32) = (124 : Int32) by decide)]
      exact done
    · rw [if_neg (show ¬ (60 : Int32) ≤ nI k by rw [show (60 : Int32) = nI 60 from rfl, nI_leI (by omega) (by omega)]; exact hk6), if_neg (show ¬ (1 : Int32) = 0 by decide)]
      rw [sees_k e1 (124 : Int32)]
      simp only [Option.bind_some]
      by_cases q124 : s = nI 124
      · have v124 : v = nI 124 := (sg.eq (by omega)).mp q124
        rw [if_pos (show s = (124 : Int32) from q124), if_neg (show ¬ (1 : Int32) = 0 by decide), if_pos (show v = (124 : Int32) from v124)]
        simp only [bd]
        exact go 124 (by omega) v124
      · have v124 : ¬ v = nI 124 := sg.no (by omega) q124
        rw [if_neg (show ¬ s = (124 : Int32) from q124), if_pos (show (0 : Int32) = 0 from rfl), if_neg (show ¬ v = (124 : Int32) from v124)]
        rw [if_pos (Or.inr trivial)]
        exact done
theorem either_k {u n d : Nat} {rc : RT_Lt} {rm : RT_Mt} (ok : OKP u n d rc.2.1 rm.2.1) : OKP u n d (f_X1_readEither_b rc) (f_X12_whole_b rm) := by
  intro lam nu p c D t h
  unfold f_X1_readEither_b f_X12_whole_b
  refine (ok lam nu p c D t h).bind ?_
  rintro ⟨a, y⟩ ⟨b, z⟩ ⟨f, ⟨e1, e2, fl⟩ | ⟨e1, e2, p', c', q1, q2, q3⟩⟩
  · obtain rfl : y = 0 := e1
    obtain rfl : z = 0 := e2
    obtain ⟨m, hm⟩ : ∃ m, fuel0 = m + 1 := ⟨fuel0 - 1, by have := fuel_big; omega⟩
    show Sim _ (f_X1_readEither_L8 rc fuel0 a (nI d) 0 0) _
    rw [hm, f_X1_readEither_L8, if_neg (show ¬ (60 : Int32) ≤ 0 by decide), if_pos rfl, if_pos (Or.inl rfl), if_pos rfl]
    exact Sim.pure ⟨f, Or.inl ⟨rfl, rfl, fl⟩⟩
  · obtain rfl : y = 1 := e1
    obtain rfl : z = 1 := e2
    have hp : p' ≤ n := q3.2.2.1
    have hn := t.2.1
    rw [if_neg (show ¬ (1 : Int32) = 0 by decide)]
    have := either_L ok (n - p') p' c' (D + 1) 0 a b fuel0 fuel0 (by omega) (fuel_ge _ (by omega)) (fuel_ge _ (by omega)) (t.fp f) q3 (by omega) (by omega)
    refine this.mono ?_
    rintro x y ⟨f2, k⟩
    refine ⟨f.trans f2, ?_⟩
    rcases k with k | ⟨k1, k2, p2, c2, k3, k4, k5⟩
    · exact Or.inl k
    · exact Or.inr ⟨k1, k2, p2, c2, by omega, by omega, k5⟩
theorem both_L {u n d : Nat} {rc : RT_Lt} {rm : RT_Mt} (ok : OKP u n d rc.2.2.1 rm.2.2.1) : ∀ (r p c D k : Nat) (lam nu : Mem) (f g : Nat), p + r = n → r < f → r < g → TP u n lam nu → PS u n d p c D lam nu → 1 ≤ D → k ≤ p →
      Sim (RLx u n d p c D lam nu) (f_X1_readBoth_L8 rc f lam (nI d) 1 (nI k)) (f_X12_both_L9 rm g nu) := by
  intro r
  induction r using Nat.strongRecOn with
  | _ r ih =>
    intro p c D k lam nu f g hr hf hg t h hD hk
    obtain ⟨f, rfl⟩ : ∃ f', f = f' + 1 := ⟨f - 1, by omega⟩
    obtain ⟨g, rfl⟩ : ∃ g', g = g' + 1 := ⟨g - 1, by omega⟩
    obtain ⟨s, v, e1, e2, sg⟩ := look_at t h
    have hn := t.2.1
    have go : ∀ o, (0 < o ∧ o < 128 ∧ o ≠ 33 ∧ o ≠ 100 ∧ o ≠ 109 ∧ o ≠ 112 ∧ o ≠ 115) → v = nI o → Sim (RLx u n d p c D lam nu)
        ((rc.2.2.1 (AL lam) (nI d)).bind fun q => (f_X1_write q.1 (-(nI o))).bind fun w => f_X1_readBoth_L8 rc f w (nI d) q.2 (nI k + 1))
        ((rm.2.2.1 (AN nu)).bind fun q => if q.2 = 0 then some (q.1, 0) else (f_X12_step1 q.1 (3 : Int32) (nI o)).bind fun w => f_X12_both_L9 rm g w) := by
      intro o ho hv
      have hp := sg.lt ho.2.1 hv
      refine op_ok ok t h hD hp ho (K := fun w x => f_X1_readBoth_L8 rc f w (nI d) x (nI k + 1)) (K' := fun w => f_X12_both_L9 rm g w) ?_ ?_
      · intro w
        obtain ⟨f, rfl⟩ : ∃ f', f = f' + 1 := ⟨f - 1, by omega⟩
        show f_X1_readBoth_L8 rc (f + 1) w (nI d) 0 (nI k + 1) = some (w, 0)
        rw [f_X1_readBoth_L8, if_pos rfl, if_pos (Or.inl rfl), ite_self]
      · intro w w' p' c' h1 h2 h3 h4
        show Sim _ (f_X1_readBoth_L8 rc f w (nI d) 1 (nI k + 1)) (f_X12_both_L9 rm g w')
        rw [nI_1]
        have h5 : p' ≤ n := h3.2.2.1
        exact ih (n - p') (by omega) p' c' D (k + 1) w w' f g (by omega) (by omega) (by omega) (t.fp h4) h3 hD (by omega)
    have done : Sim (RLx u n d p c D lam nu) (some (lam, (1 : Int32))) (some (nu, (1 : Int32))) := Sim.pure ⟨FP.refl _ _, Or.inr ⟨rfl, rfl, p, c, by omega, by omega, h⟩⟩
    rw [f_X1_readBoth_L8, f_X12_both_L9, e2]
    simp only [Option.bind_some]
    by_cases hk6 : 60 ≤ k
    · rw [if_pos (show (60 : Int32) ≤ nI k by rw [show (60 : Int32) = nI 60 from rfl, nI_leI (by omega) (by omega)]; exact hk6), if_pos (Or.inr trivial)]
      have hv : v = -1 := by
        rcases sg with ⟨-, h, -⟩ | ⟨h, -⟩
        · exact h
        · omega
      subst hv
      rw [if_neg (show ¬ (-1 : Int32) = (38 : Int32) by decide)]
      exact done
    · rw [if_neg (show ¬ (60 : Int32) ≤ nI k by rw [show (60 : Int32) = nI 60 from rfl, nI_leI (by omega) (by omega)]; exact hk6), if_neg (show ¬ (1 : Int32) = 0 by decide)]
      rw [sees_k e1 (38 : Int32)]
      simp only [Option.bind_some]
      by_cases q38 : s = nI 38
      · have v38 : v = nI 38 := (sg.eq (by omega)).mp q38
        rw [if_pos (show s = (38 : Int32) from q38), if_neg (show ¬ (1 : Int32) = 0 by decide), if_pos (show v = (38 : Int32) from v38)]
        simp only [bd]
        exact go 38 (by omega) v38
      · have v38 : ¬ v = nI 38 := sg.no (by omega) q38
        rw [if_neg (show ¬ s = (38 : Int32) from q38), if_pos (show (0 : Int32) = 0 from rfl), if_neg (show ¬ v = (38 : Int32) from v38)]
        rw [if_pos (Or.inr trivial)]
        exact done
theorem both_k {u n d : Nat} {rc : RT_Lt} {rm : RT_Mt} (ok : OKP u n d rc.2.2.1 rm.2.2.1) : OKP u n d (f_X1_readBoth_b rc) (f_X12_both_b rm) := by
  intro lam nu p c D t h
  unfold f_X1_readBoth_b f_X12_both_b
  refine (ok lam nu p c D t h).bind ?_
  rintro ⟨a, y⟩ ⟨b, z⟩ ⟨f, ⟨e1, e2, fl⟩ | ⟨e1, e2, p', c', q1, q2, q3⟩⟩
  · obtain rfl : y = 0 := e1
    obtain rfl : z = 0 := e2
    obtain ⟨m, hm⟩ : ∃ m, fuel0 = m + 1 := ⟨fuel0 - 1, by have := fuel_big; omega⟩
    show Sim _ (f_X1_readBoth_L8 rc fuel0 a (nI d) 0 0) _
    rw [hm, f_X1_readBoth_L8, if_neg (show ¬ (60 : Int32) ≤ 0 by decide), if_pos rfl, if_pos (Or.inl rfl), if_pos rfl]
    exact Sim.pure ⟨f, Or.inl ⟨rfl, rfl, fl⟩⟩
  · obtain rfl : y = 1 := e1
    obtain rfl : z = 1 := e2
    have hp : p' ≤ n := q3.2.2.1
    have hn := t.2.1
    rw [if_neg (show ¬ (1 : Int32) = 0 by decide)]
    have := both_L ok (n - p') p' c' (D + 1) 0 a b fuel0 fuel0 (by omega) (fuel_ge _ (by omega)) (fuel_ge _ (by omega)) (t.fp f) q3 (by omega) (by omega)
    refine this.mono ?_
    rintro x y ⟨f2, k⟩
    refine ⟨f.trans f2, ?_⟩
    rcases k with k | ⟨k1, k2, p2, c2, k3, k4, k5⟩
    · exact Or.inl k
    · exact Or.inr ⟨k1, k2, p2, c2, by omega, by omega, k5⟩
theorem sum_L {u n d : Nat} {rc : RT_Lt} {rm : RT_Mt} (ok : OKP u n d rc.2.2.2.2.1 rm.2.2.2.2.1) : ∀ (r p c D k : Nat) (lam nu : Mem) (f g : Nat), p + r = n → r < f → r < g → TP u n lam nu → PS u n d p c D lam nu → 1 ≤ D → k ≤ p →
      Sim (RLx u n d p c D lam nu) (f_X1_readSum_L8 rc f lam (nI d) 1 (nI k)) (f_X12_sum_L9 rm g nu) := by
  intro r
  induction r using Nat.strongRecOn with
  | _ r ih =>
    intro p c D k lam nu f g hr hf hg t h hD hk
    obtain ⟨f, rfl⟩ : ∃ f', f = f' + 1 := ⟨f - 1, by omega⟩
    obtain ⟨g, rfl⟩ : ∃ g', g = g' + 1 := ⟨g - 1, by omega⟩
    obtain ⟨s, v, e1, e2, sg⟩ := look_at t h
    have hn := t.2.1
    have go : ∀ o, (0 < o ∧ o < 128 ∧ o ≠ 33 ∧ o ≠ 100 ∧ o ≠ 109 ∧ o ≠ 112 ∧ o ≠ 115) → v = nI o → Sim (RLx u n d p c D lam nu)
        ((rc.2.2.2.2.1 (AL lam) (nI d)).bind fun q => (f_X1_write q.1 (-(nI o))).bind fun w => f_X1_readSum_L8 rc f w (nI d) q.2 (nI k + 1))
        ((rm.2.2.2.2.1 (AN nu)).bind fun q => if q.2 = 0 then some (q.1, 0) else (f_X12_step1 q.1 (3 : Int32) (nI o)).bind fun w => f_X12_sum_L9 rm g w) := by
      intro o ho hv
      have hp := sg.lt ho.2.1 hv
      refine op_ok ok t h hD hp ho (K := fun w x => f_X1_readSum_L8 rc f w (nI d) x (nI k + 1)) (K' := fun w => f_X12_sum_L9 rm g w) ?_ ?_
      · intro w
        obtain ⟨f, rfl⟩ : ∃ f', f = f' + 1 := ⟨f - 1, by omega⟩
        show f_X1_readSum_L8 rc (f + 1) w (nI d) 0 (nI k + 1) = some (w, 0)
        rw [f_X1_readSum_L8, if_pos rfl, if_pos (Or.inl rfl), ite_self]
      · intro w w' p' c' h1 h2 h3 h4
        show Sim _ (f_X1_readSum_L8 rc f w (nI d) 1 (nI k + 1)) (f_X12_sum_L9 rm g w')
        rw [nI_1]
        have h5 : p' ≤ n := h3.2.2.1
        exact ih (n - p') (by omega) p' c' D (k + 1) w w' f g (by omega) (by omega) (by omega) (t.fp h4) h3 hD (by omega)
    have done : Sim (RLx u n d p c D lam nu) (some (lam, (1 : Int32))) (some (nu, (1 : Int32))) := Sim.pure ⟨FP.refl _ _, Or.inr ⟨rfl, rfl, p, c, by omega, by omega, h⟩⟩
    rw [f_X1_readSum_L8, f_X12_sum_L9, e2]
    simp only [Option.bind_some]
    by_cases hk6 : 60 ≤ k
    · rw [if_pos (show (60 : Int32) ≤ nI k by rw [show (60 : Int32) = nI 60 from rfl, nI_leI (by omega) (by omega)]; exact hk6), if_pos (Or.inr trivial)]
      have hv : v = -1 := by
        rcases sg with ⟨-, h, -⟩ | ⟨h, -⟩
        · exact h
        · omega
      subst hv
      rw [if_neg (show ¬ (-1 : Int32) = (43 : Int32) by decide)]
      rw [e2]
      simp only [Option.bind_some]
      rw [if_neg (show ¬ (-1 : Int32) = (45 : Int32) by decide)]
      exact done
    · rw [if_neg (show ¬ (60 : Int32) ≤ nI k by rw [show (60 : Int32) = nI 60 from rfl, nI_leI (by omega) (by omega)]; exact hk6), if_neg (show ¬ (1 : Int32) = 0 by decide)]
      rw [sees_k e1 (43 : Int32)]
      simp only [Option.bind_some]
      by_cases q43 : s = nI 43
      · have v43 : v = nI 43 := (sg.eq (by omega)).mp q43
        rw [if_pos (show s = (43 : Int32) from q43), if_neg (show ¬ (1 : Int32) = 0 by decide), if_pos (show v = (43 : Int32) from v43)]
        unfold f_X1_readSum_L36 f_X12_sum_L27
        rw [take_k e1, e2]
        simp only [Option.bind_some, bd]
        rw [q43, v43]
        exact go 43 (by omega) v43
      · have v43 : ¬ v = nI 43 := sg.no (by omega) q43
        rw [if_neg (show ¬ s = (43 : Int32) from q43), if_pos (show (0 : Int32) = 0 from rfl), if_neg (show ¬ v = (43 : Int32) from v43)]
        rw [sees_k e1 (45 : Int32)]
        simp only [Option.bind_some]
        rw [e2]
        simp only [Option.bind_some]
        by_cases q45 : s = nI 45
        · have v45 : v = nI 45 := (sg.eq (by omega)).mp q45
          rw [if_pos (show s = (45 : Int32) from q45), if_neg (show ¬ (1 : Int32) = 0 by decide), if_pos (show v = (45 : Int32) from v45)]
          unfold f_X1_readSum_L36 f_X12_sum_L27
          rw [take_k e1, e2]
          simp only [Option.bind_some, bd]
          rw [q45, v45]
          exact go 45 (by omega) v45
        · have v45 : ¬ v = nI 45 := sg.no (by omega) q45
          rw [if_neg (show ¬ s = (45 : Int32) from q45), if_pos (show (0 : Int32) = 0 from rfl), if_neg (show ¬ v = (45 : Int32) from v45)]
          rw [if_pos (Or.inr trivial)]
          exact done
theorem sum_k {u n d : Nat} {rc : RT_Lt} {rm : RT_Mt} (ok : OKP u n d rc.2.2.2.2.1 rm.2.2.2.2.1) : OKP u n d (f_X1_readSum_b rc) (f_X12_sum_b rm) := by
  intro lam nu p c D t h
  unfold f_X1_readSum_b f_X12_sum_b
  refine (ok lam nu p c D t h).bind ?_
  rintro ⟨a, y⟩ ⟨b, z⟩ ⟨f, ⟨e1, e2, fl⟩ | ⟨e1, e2, p', c', q1, q2, q3⟩⟩
  · obtain rfl : y = 0 := e1
    obtain rfl : z = 0 := e2
    obtain ⟨m, hm⟩ : ∃ m, fuel0 = m + 1 := ⟨fuel0 - 1, by have := fuel_big; omega⟩
    show Sim _ (f_X1_readSum_L8 rc fuel0 a (nI d) 0 0) _
    rw [hm, f_X1_readSum_L8, if_neg (show ¬ (60 : Int32) ≤ 0 by decide), if_pos rfl, if_pos (Or.inl rfl), if_pos rfl]
    exact Sim.pure ⟨f, Or.inl ⟨rfl, rfl, fl⟩⟩
  · obtain rfl : y = 1 := e1
    obtain rfl : z = 1 := e2
    have hp : p' ≤ n := q3.2.2.1
    have hn := t.2.1
    rw [if_neg (show ¬ (1 : Int32) = 0 by decide)]
    have := sum_L ok (n - p') p' c' (D + 1) 0 a b fuel0 fuel0 (by omega) (fuel_ge _ (by omega)) (fuel_ge _ (by omega)) (t.fp f) q3 (by omega) (by omega)
    refine this.mono ?_
    rintro x y ⟨f2, k⟩
    refine ⟨f.trans f2, ?_⟩
    rcases k with k | ⟨k1, k2, p2, c2, k3, k4, k5⟩
    · exact Or.inl k
    · exact Or.inr ⟨k1, k2, p2, c2, by omega, by omega, k5⟩
theorem prod_L {u n d : Nat} {rc : RT_Lt} {rm : RT_Mt} (ok : OKP u n d rc.2.2.2.2.2.1 rm.2.2.2.2.2) : ∀ (r p c D k : Nat) (lam nu : Mem) (f g : Nat), p + r = n → r < f → r < g → TP u n lam nu → PS u n d p c D lam nu → 1 ≤ D → k ≤ p →
      Sim (RLx u n d p c D lam nu) (f_X1_readProduct_L8 rc f lam (nI d) 1 (nI k)) (f_X12_product_L9 rm g nu) := by
  intro r
  induction r using Nat.strongRecOn with
  | _ r ih =>
    intro p c D k lam nu f g hr hf hg t h hD hk
    obtain ⟨f, rfl⟩ : ∃ f', f = f' + 1 := ⟨f - 1, by omega⟩
    obtain ⟨g, rfl⟩ : ∃ g', g = g' + 1 := ⟨g - 1, by omega⟩
    obtain ⟨s, v, e1, e2, sg⟩ := look_at t h
    have hn := t.2.1
    have go : ∀ o, (0 < o ∧ o < 128 ∧ o ≠ 33 ∧ o ≠ 100 ∧ o ≠ 109 ∧ o ≠ 112 ∧ o ≠ 115) → v = nI o → Sim (RLx u n d p c D lam nu)
        ((rc.2.2.2.2.2.1 (AL lam) (nI d)).bind fun q => (f_X1_write q.1 (-(nI o))).bind fun w => f_X1_readProduct_L8 rc f w (nI d) q.2 (nI k + 1))
        ((rm.2.2.2.2.2 (AN nu)).bind fun q => if q.2 = 0 then some (q.1, 0) else (f_X12_step1 q.1 (3 : Int32) (nI o)).bind fun w => f_X12_product_L9 rm g w) := by
      intro o ho hv
      have hp := sg.lt ho.2.1 hv
      refine op_ok ok t h hD hp ho (K := fun w x => f_X1_readProduct_L8 rc f w (nI d) x (nI k + 1)) (K' := fun w => f_X12_product_L9 rm g w) ?_ ?_
      · intro w
        obtain ⟨f, rfl⟩ : ∃ f', f = f' + 1 := ⟨f - 1, by omega⟩
        show f_X1_readProduct_L8 rc (f + 1) w (nI d) 0 (nI k + 1) = some (w, 0)
        rw [f_X1_readProduct_L8, if_pos rfl, if_pos (Or.inl rfl), ite_self]
      · intro w w' p' c' h1 h2 h3 h4
        show Sim _ (f_X1_readProduct_L8 rc f w (nI d) 1 (nI k + 1)) (f_X12_product_L9 rm g w')
        rw [nI_1]
        have h5 : p' ≤ n := h3.2.2.1
        exact ih (n - p') (by omega) p' c' D (k + 1) w w' f g (by omega) (by omega) (by omega) (t.fp h4) h3 hD (by omega)
    have done : Sim (RLx u n d p c D lam nu) (some (lam, (1 : Int32))) (some (nu, (1 : Int32))) := Sim.pure ⟨FP.refl _ _, Or.inr ⟨rfl, rfl, p, c, by omega, by omega, h⟩⟩
    rw [f_X1_readProduct_L8, f_X12_product_L9, e2]
    simp only [Option.bind_some]
    by_cases hk6 : 60 ≤ k
    · rw [if_pos (show (60 : Int32) ≤ nI k by rw [show (60 : Int32) = nI 60 from rfl, nI_leI (by omega) (by omega)]; exact hk6), if_pos (Or.inr trivial)]
      have hv : v = -1 := by
        rcases sg with ⟨-, h, -⟩ | ⟨h, -⟩
        · exact h
        · omega
      subst hv
      rw [if_neg (show ¬ (-1 : Int32) = (42 : Int32) by decide)]
      rw [e2]
      simp only [Option.bind_some]
      rw [if_neg (show ¬ (-1 : Int32) = (47 : Int32) by decide)]
      rw [e2]
      simp only [Option.bind_some]
      rw [if_neg (show ¬ (-1 : Int32) = (37 : Int32) by decide)]
      exact done
    · rw [if_neg (show ¬ (60 : Int32) ≤ nI k by rw [show (60 : Int32) = nI 60 from rfl, nI_leI (by omega) (by omega)]; exact hk6), if_neg (show ¬ (1 : Int32) = 0 by decide)]
      rw [sees_k e1 (42 : Int32)]
      simp only [Option.bind_some]
      by_cases q42 : s = nI 42
      · have v42 : v = nI 42 := (sg.eq (by omega)).mp q42
        rw [if_pos (show s = (42 : Int32) from q42), if_neg (show ¬ (1 : Int32) = 0 by decide), if_pos (show v = (42 : Int32) from v42)]
        unfold f_X1_readProduct_L45 f_X12_product_L36
        rw [take_k e1, e2]
        simp only [Option.bind_some, bd]
        rw [q42, v42]
        exact go 42 (by omega) v42
      · have v42 : ¬ v = nI 42 := sg.no (by omega) q42
        rw [if_neg (show ¬ s = (42 : Int32) from q42), if_pos (show (0 : Int32) = 0 from rfl), if_neg (show ¬ v = (42 : Int32) from v42)]
        rw [sees_k e1 (47 : Int32)]
        simp only [Option.bind_some]
        rw [e2]
        simp only [Option.bind_some]
        by_cases q47 : s = nI 47
        · have v47 : v = nI 47 := (sg.eq (by omega)).mp q47
          rw [if_pos (show s = (47 : Int32) from q47), if_neg (show ¬ (1 : Int32) = 0 by decide), if_pos (show v = (47 : Int32) from v47)]
          unfold f_X1_readProduct_L45 f_X12_product_L36
          rw [take_k e1, e2]
          simp only [Option.bind_some, bd]
          rw [q47, v47]
          exact go 47 (by omega) v47
        · have v47 : ¬ v = nI 47 := sg.no (by omega) q47
          rw [if_neg (show ¬ s = (47 : Int32) from q47), if_pos (show (0 : Int32) = 0 from rfl), if_neg (show ¬ v = (47 : Int32) from v47)]
          rw [sees_k e1 (37 : Int32)]
          simp only [Option.bind_some]
          rw [e2]
          simp only [Option.bind_some]
          by_cases q37 : s = nI 37
          · have v37 : v = nI 37 := (sg.eq (by omega)).mp q37
            rw [if_pos (show s = (37 : Int32) from q37), if_neg (show ¬ (1 : Int32) = 0 by decide), if_pos (show v = (37 : Int32) from v37)]
            unfold f_X1_readProduct_L45 f_X12_product_L36
            rw [take_k e1, e2]
            simp only [Option.bind_some, bd]
            rw [q37, v37]
            exact go 37 (by omega) v37
          · have v37 : ¬ v = nI 37 := sg.no (by omega) q37
            rw [if_neg (show ¬ s = (37 : Int32) from q37), if_pos (show (0 : Int32) = 0 from rfl), if_neg (show ¬ v = (37 : Int32) from v37)]
            rw [if_pos (Or.inr trivial)]
            exact done
theorem prod_k {u n d : Nat} {rc : RT_Lt} {rm : RT_Mt} (ok : OKP u n d rc.2.2.2.2.2.1 rm.2.2.2.2.2) : OKP u n d (f_X1_readProduct_b rc) (f_X12_product_b rm) := by
  intro lam nu p c D t h
  unfold f_X1_readProduct_b f_X12_product_b
  refine (ok lam nu p c D t h).bind ?_
  rintro ⟨a, y⟩ ⟨b, z⟩ ⟨f, ⟨e1, e2, fl⟩ | ⟨e1, e2, p', c', q1, q2, q3⟩⟩
  · obtain rfl : y = 0 := e1
    obtain rfl : z = 0 := e2
    obtain ⟨m, hm⟩ : ∃ m, fuel0 = m + 1 := ⟨fuel0 - 1, by have := fuel_big; omega⟩
    show Sim _ (f_X1_readProduct_L8 rc fuel0 a (nI d) 0 0) _
    rw [hm, f_X1_readProduct_L8, if_neg (show ¬ (60 : Int32) ≤ 0 by decide), if_pos rfl, if_pos (Or.inl rfl), if_pos rfl]
    exact Sim.pure ⟨f, Or.inl ⟨rfl, rfl, fl⟩⟩
  · obtain rfl : y = 1 := e1
    obtain rfl : z = 1 := e2
    have hp : p' ≤ n := q3.2.2.1
    have hn := t.2.1
    rw [if_neg (show ¬ (1 : Int32) = 0 by decide)]
    have := prod_L ok (n - p') p' c' (D + 1) 0 a b fuel0 fuel0 (by omega) (fuel_ge _ (by omega)) (fuel_ge _ (by omega)) (t.fp f) q3 (by omega) (by omega)
    refine this.mono ?_
    rintro x y ⟨f2, k⟩
    refine ⟨f.trans f2, ?_⟩
    rcases k with k | ⟨k1, k2, p2, c2, k3, k4, k5⟩
    · exact Or.inl k
    · exact Or.inr ⟨k1, k2, p2, c2, by omega, by omega, k5⟩
