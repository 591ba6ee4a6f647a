theorem Sim.keepl {α β : Type} {R : α → β → Prop} {x : Option α} {y : Option β} {f : α → Option α} (h : Sim R x y) (k : ∀ a b, R a b → f a = some a) : Sim R (x.bind f) y := by
  obtain ⟨a, b, rfl, rfl, hr⟩ := h
  exact ⟨a, b, by rw [Option.bind_some, k a b hr], rfl, hr⟩
/-- not: what stands behind it -/
theorem not_ok {u n d p c D : Nat} {lam nu : Mem} {F : Mem → Int32 → Option (Mem × Int32)} {G : Mem → Option (Mem × Int32)} (hd : d < 5) (ok : OKP u n (d + 1) F G) (t : TP u n lam nu) (h : PS u n d p c D lam nu) (hp : p < n) :
    Sim (RU u n d p c D lam nu)
      ((F (AL lam) (nI (d + 1))).bind fun q11 => (f_X1_write q11.1 (-33 : Int32)).bind fun q12 => if q11.2 = 0 ∨ q11.2 = 1 then some (q12, q11.2) else none)
      ((G (BN nu)).bind fun q10 => if q10.2 = 0 then some (q10.1, (0 : Int32)) else (f_X12_step1 (DN q10.1) (2 : Int32) (0 : Int32)).bind fun q12 => some (q12, (1 : Int32))) := by
  obtain ⟨h', f'⟩ := open_ok h hp
  have hn := t.2.1
  have hc : c ≤ p := h.2.2.2.2.2.2.1
  refine (ok _ _ _ _ _ (t.fp f') h').bind ?_
  rintro ⟨a, y⟩ ⟨b, z⟩ ⟨f, ⟨e1, e2, fl⟩ | ⟨e1, e2, p', c', q1, q2, q3⟩⟩
  · obtain rfl : y = 0 := e1
    obtain rfl : z = 0 := e2
    obtain ⟨l, w1, w2, w3⟩ := fl.wrt (-33 : Int32)
    show Sim _ ((f_X1_write a (-33 : Int32)).bind _) _
    rw [w1, Option.bind_some, if_pos (Or.inl rfl), if_pos rfl]
    exact Sim.pure ⟨(f'.trans f).trans w3, Or.inl ⟨rfl, rfl, w2⟩⟩
  · obtain rfl : y = 1 := e1
    obtain rfl : z = 1 := e2
    have q3' : PS u n (d + 1) p' c' (D + 1) a b := q3
    obtain ⟨q4, f4⟩ := shut_ok hd q3'
    have hD : D + 1 ≤ p' := q3'.2.2.2.2.2.2.2.1
    obtain ⟨l, m, w1, w2, w3, w4⟩ := wrt (v := -33) (a := 2) (b := 0) (D' := D + 1) hn q4 (by omega) (Or.inr (Or.inr (Or.inl ⟨rfl, rfl, by omega, rfl⟩))) hD
    rw [if_neg n10]
    show Sim _ ((f_X1_write a (-33 : Int32)).bind _) ((f_X12_step1 (DN b) (2 : Int32) (0 : Int32)).bind _)
    rw [w1, w2, Option.bind_some, Option.bind_some, if_pos (Or.inr rfl)]
    exact Sim.pure ⟨((f'.trans f).trans f4).trans w4, Or.inr ⟨rfl, rfl, p', c' + 1, by omega, by omega, w3⟩⟩
/-- a text in brackets -/
theorem brac_ok {u n d p c D : Nat} {lam nu : Mem} {s v : Int32} {rc2 : RT_Lt} {G : Mem → Option (Mem × Int32)} (hd : d < 5) (ok : OKP u n (d + 1) rc2.1 G) (t : TP u n lam nu) (h : PS u n d p c D lam nu)
    (e1 : f_X1_nextSign lam = some (lam, s)) (sg : SG p n s v) :
    Sim (RU u n d p c D lam nu) (f_X1_readBracket_b rc2 lam (nI d))
      (if v = (40 : Int32) then ((G (BN nu)).bind fun q5 => if q5.2 = 0 then some (q5.1, (0 : Int32)) else (f_X12_look q5.1).bind fun q6 =>
        if q6.2 = (41 : Int32) then some (DN (AN q6.1), (1 : Int32)) else some (q6.1, (0 : Int32))) else some (nu, (0 : Int32))) := by
  have hn := t.2.1
  unfold f_X1_readBracket_b
  rw [sees_k e1 (40 : Int32)]
  simp only [Option.bind_some, bd]
  by_cases q : s = nI 40
  · have hv : v = nI 40 := (sg.eq (by omega)).mp q
    rw [if_pos (show s = (40 : Int32) from q), if_neg n10, if_pos (show v = (40 : Int32) from hv), nI_1]
    have hp := sg.lt (by omega) hv
    obtain ⟨h', f'⟩ := open_ok h hp
    refine (ok _ _ _ _ _ (t.fp f') h').bind ?_
    rintro ⟨a, y⟩ ⟨b, z⟩ ⟨f, ⟨e1, e2, fl⟩ | ⟨e1, e2, p', c', q1, q2, q3⟩⟩
    · obtain rfl : y = 0 := e1
      obtain rfl : z = 0 := e2
      rw [if_pos rfl, if_pos rfl]
      exact Sim.pure ⟨f'.trans f, Or.inl ⟨rfl, rfl, fl⟩⟩
    · obtain rfl : y = 1 := e1
      obtain rfl : z = 1 := e2
      have q3' : PS u n (d + 1) p' c' (D + 1) a b := q3
      have F1 := f'.trans f
      obtain ⟨s, v, e1, e2, sg⟩ := look_at (t.fp F1) q3'
      rw [if_neg n10, if_neg n10]
      show Sim _ ((f_X1_sees a (41 : Int32)).bind _) ((f_X12_look b).bind _)
      rw [sees_k e1 (41 : Int32), e2]
      simp only [Option.bind_some]
      by_cases q : s = nI 41
      · have hv : v = nI 41 := (sg.eq (by omega)).mp q
        have hp' := sg.lt (by omega) hv
        obtain ⟨h2, f2⟩ := adv q3' hp'
        obtain ⟨h3, f3⟩ := shut_ok hd h2
        rw [if_pos (show s = (41 : Int32) from q), if_neg n10, if_pos (show v = (41 : Int32) from hv)]
        exact Sim.pure ⟨(F1.trans f2).trans f3, Or.inr ⟨rfl, rfl, p' + 1, c', by omega, by omega, h3⟩⟩
      · have hv : ¬ v = nI 41 := sg.no (by omega) q
        rw [if_neg (show ¬ s = (41 : Int32) from q), if_pos (show (0 : Int32) = 0 from rfl), if_neg (show ¬ v = (41 : Int32) from hv)]
        exact Sim.pure ⟨F1, Or.inl ⟨rfl, rfl, q3'.fl hn⟩⟩
  · have hv : ¬ v = nI 40 := sg.no (by omega) q
    rw [if_neg (show ¬ s = (40 : Int32) from q), if_pos (show (0 : Int32) = 0 from rfl), if_neg (show ¬ v = (40 : Int32) from hv)]
    exact h.no hn
theorem unit_k {u n d : Nat} {rc rc2 : RT_Lt} {rm : RT_Mt} (hd5 : d ≤ 5) (hb : d < 5 → rc.2.2.2.2.2.2 = f_X1_readBracket_b rc2 ∧ OKP u n (d + 1) rc2.1 rm.1 ∧ OKP u n (d + 1) rc.2.2.2.2.2.1 rm.2.2.2.2.2) :
    OKP u n d (f_X1_readUnit_b rc) (f_X12_one_b rm) := by
  intro lam nu p c D t h
  show Sim (RU u n d p c D lam nu) _ _
  have hn := t.2.1
  have hu := t.1
  have h6 : nu 0 6 = nI d := h.2.2.2.1
  obtain ⟨s, v, e1, e2, sg⟩ := look_at t h
  unfold f_X1_readUnit_b f_X12_one_b
  rw [e2]
  simp only [Option.bind_some]
  rw [isn_k hu t.2.2.2.2.1]
  simp only [Option.bind_some]
  have l0 : lam 0 0 = nI (if u = 0 then 115 else 100) := t.2.2.2.2.2.1
  have lt : (if u = 0 then 115 else 100) < 128 := by split <;> omega
  have nm : ∀ k, k < 128 → (s = nI k ↔ v = nI k) := fun k hk => sg.eq hk
  rcases sg.dig with ⟨hs, hv⟩ | ⟨hpn, w, hw, hs, hv, s1, s2, hd⟩
  · rw [sd_no e1 hs]
    simp only [Option.bind_some]
    rw [if_pos trivial, l0, sees_k e1]
    simp only [Option.bind_some]
    have yes : (v = 109 ∨ v = 112 ∨ v = nI (if u = 0 then 115 else 100)) → ∀ k, (k = 109 ∨ k = 112 ∨ k = if u = 0 then 115 else 100) → s = nI k →
        Sim (RU u n d p c D lam nu) (f_X1_readUnit_L42 rc lam) ((f_X12_step1 (AN nu) (1 : Int32) v).bind fun q => some (q, (1 : Int32))) := fun _ k hk hs => name_ok t h e1 sg hk hs
    by_cases qa : s = nI (if u = 0 then 115 else 100)
    · have hv3 := (nm _ lt).mp qa
      rw [if_pos qa, if_neg n10, if_pos (Or.inr (Or.inr hv3)), if_neg n10]
      exact yes (Or.inr (Or.inr hv3)) _ (Or.inr (Or.inr rfl)) qa
    · have va : ¬ v = nI (if u = 0 then 115 else 100) := sg.no lt qa
      rw [if_neg qa, if_pos (show (0 : Int32) = 0 from rfl), sees_k e1]
      simp only [Option.bind_some]
      by_cases qb : s = nI 112
      · have hv3 : v = 112 := (nm 112 (by omega)).mp qb
        rw [if_pos (show s = (112 : Int32) from qb), if_neg n10, if_pos (Or.inr (Or.inl hv3)), if_neg n10]
        exact yes (Or.inr (Or.inl hv3)) 112 (Or.inr (Or.inl rfl)) qb
      · have vb : ¬ v = 112 := fun e => qb ((nm 112 (by omega)).mpr e)
        rw [if_neg (show ¬ s = (112 : Int32) from qb), if_pos (show (0 : Int32) = 0 from rfl), sees_k e1]
        simp only [Option.bind_some]
        by_cases qc : s = nI 109
        · have hv3 : v = 109 := (nm 109 (by omega)).mp qc
          rw [if_pos (show s = (109 : Int32) from qc), if_neg n10, if_pos (Or.inl hv3), if_neg n10]
          exact yes (Or.inl hv3) 109 (Or.inl rfl) qc
        · have vc : ¬ v = 109 := fun e => qc ((nm 109 (by omega)).mpr e)
          have nov : ¬ (v = 109 ∨ v = 112 ∨ v = nI (if u = 0 then 115 else 100)) := fun h => by
            rcases h with h | h | h
            · exact vc h
            · exact vb h
            · exact va h
          rw [if_neg (show ¬ s = (109 : Int32) from qc), if_pos (show (0 : Int32) = 0 from rfl), if_neg nov, if_pos (show (0 : Int32) = 0 from rfl), hv]
          simp only [Option.bind_some]
          rw [if_pos trivial]
          by_cases hd : d < 5
          · obtain ⟨b1, b2, b3⟩ := hb hd
            have op : f_X12_opens nu = some (BN nu, 1) := by
              unfold f_X12_opens
              rw [h6, if_neg (show ¬ nI d = (5 : Int32) by rw [show (5 : Int32) = nI 5 from rfl, nI_inj (by omega) (by omega)]; omega)]
              simp only [bd]
              unfold BN
              rw [h6]
            rw [if_pos (show nI d < (5 : Int32) by rw [show (5 : Int32) = nI 5 from rfl, nI_ltI (by omega) (by omega)]; exact hd), sees_k e1, op]
            simp only [Option.bind_some]
            by_cases qd : s = nI 33
            · have hv3 : v = (33 : Int32) := (nm 33 (by omega)).mp qd
              rw [if_pos (show s = (33 : Int32) from qd), if_neg n10, if_pos hv3, if_neg n10, nI_1]
              simp only [bd]
              exact not_ok hd b3 t h (sg.lt (k := 33) (by omega) hv3)
            · have vd : ¬ v = (33 : Int32) := fun e => qd ((nm 33 (by omega)).mpr e)
              rw [if_neg (show ¬ s = (33 : Int32) from qd), if_pos (show (0 : Int32) = 0 from rfl), if_neg vd, b1]
              simp only [bd]
              rw [if_neg n10]
              refine Sim.keepl (brac_ok hd b2 t h e1 sg) ?_
              rintro ⟨a, y⟩ ⟨b, z⟩ ⟨-, ⟨e, -, -⟩ | ⟨e, -, -⟩⟩
              · obtain rfl : y = 0 := e
                exact if_pos (Or.inl rfl)
              · obtain rfl : y = 1 := e
                exact if_pos (Or.inr rfl)
          · have hd' : d = 5 := by omega
            have op : f_X12_opens nu = some (nu, 0) := by
              unfold f_X12_opens
              rw [h6, if_pos (show nI d = (5 : Int32) by rw [hd']; rfl)]
            rw [if_neg (show ¬ nI d < (5 : Int32) by rw [show (5 : Int32) = nI 5 from rfl, nI_ltI (by omega) (by omega)]; exact hd), op]
            simp only [Option.bind_some]
            rw [if_pos trivial, if_pos trivial, ite_self, ite_self]
            exact h.no hn
  · rw [sd_yes e1 s1 s2]
    simp only [Option.bind_some]
    rw [if_neg n10]
    have nov : ¬ (v = 109 ∨ v = 112 ∨ v = nI (if u = 0 then 115 else 100)) := by
      rw [hv, show (109 : Int32) = nI 109 from rfl, show (112 : Int32) = nI 112 from rfl, nI_inj (by omega) (by omega), nI_inj (by omega) (by omega), nI_inj (by omega) (by omega)]
      split <;> omega
    rw [if_neg nov, if_pos (show (0 : Int32) = 0 from rfl), hd]
    simp only [Option.bind_some]
    rw [if_neg n10]
    exact numb_ok t h e1 e2 hpn hw hs hv s1 s2 hd
