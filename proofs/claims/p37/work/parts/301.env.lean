set_option maxHeartbeats 4000000 in
set_option maxRecDepth 100000 in
theorem law_env {p : Program} {s : State} {m : MethodId} {meth : Method} {c : Code} {b L : Nat} {xs : Nat → Int32} (C0 : lw_At p s m meth c b L xs) : ∃ (E : Ev) (tn tt : Nat), va_K E.1 vwCl (tysOf E) s ∧ FN s ∧ Fx tn tt (fun q => s.heap.size ≤ q) s := by
  obtain ⟨hx, hb, hr, hml, hown, hts, hX, hbl, hlocks, hgv⟩ := id C0
  have htt : ∀ w ∈ tbl, w.before #[Value.ref b] s = true := fun w hw => hts w (List.mem_filter.mp hw).1
  have hA : ∀ a : Nat, a < s.heap.size → ¬ (fun q : Nat => s.heap.size ≤ q) a := fun a h => Nat.not_le.mpr h
  obtain ⟨c0, iS0, hKn0⟩ := u_known (C := RX0) (T := TX0) (N := 0) (n := 0) htt (fun w h => by cases h) (htt _ k_101)
  obtain ⟨c1, iS1, hKn1⟩ := u_known (C := RX1) (T := TX1) (N := 9) (n := 9) htt iX1 (htt _ k_149)
  obtain ⟨c2, iS2, hKn2⟩ := u_known (C := RX2) (T := TX2) (N := 0) (n := 0) htt (fun w h => by cases h) (htt _ k_108)
  obtain ⟨c3, iS3, hKn3⟩ := u_known (C := RX3) (T := TX3) (N := 0) (n := 0) htt (fun w h => by cases h) (htt _ k_122)
  obtain ⟨c4, iS4, hKn4⟩ := u_known (C := RX4) (T := TX4) (N := 10) (n := 10) htt iX4 (htt _ k_184)
  obtain ⟨c5, iS5, hKn5⟩ := u_known (C := RX5) (T := TX5) (N := 8) (n := 8) htt iX5 (htt _ k_143)
  obtain ⟨c6, iS6, hKn6⟩ := u_known (C := RX6) (T := TX6) (N := 7) (n := 7) htt iX6 (htt _ k_272)
  obtain ⟨c7, iS7, hKn7⟩ := u_known (C := RX7) (T := TX7) (N := 0) (n := 0) htt (fun w h => by cases h) (htt _ k_94)
  obtain ⟨c8, iS8, hKn8⟩ := u_known (C := RX8) (T := TX8) (N := 0) (n := 0) htt (fun w h => by cases h) (htt _ k_115)
  obtain ⟨c9, iS9, hKn9⟩ := u_known (C := RX9) (T := TX9) (N := 0) (n := 0) htt (fun w h => by cases h) (htt _ k_136)
  obtain ⟨c10, iS10, hKn10⟩ := u_known (C := RX10) (T := TX10) (N := 0) (n := 0) htt (fun w h => by cases h) (htt _ k_129)
  obtain ⟨c11, iS11, hKn11⟩ := u_known (C := RX11) (T := TX11) (N := 10) (n := 10) htt iX11 (htt _ k_85)
  obtain ⟨c12, iS12, hKn12⟩ := u_known (C := RX12) (T := TX12) (N := 21) (n := 21) htt iX12 (htt _ k_907)
  obtain ⟨cAI, kAI, coI, aI1, aI2, aI3⟩ := env_arr (htt _ k_182)
  obtain ⟨cAB, kAB, coB, aB1, aB2, aB3⟩ := env_arr (htt _ k_267)
  have oS : (Cond.arrayOver (.object "StandStill$Stander")).before #[Value.ref b] s = true := hts _ (lw_of 93 (by decide +kernel))
  obtain ⟨coS, cAS, kAS, aS1, -, aS2, aS3, aS4⟩ := Cond.arrayOver_spec oS
  have oR : (Cond.arrayOver (.object "StandStill$Row")).before #[Value.ref b] s = true := hts _ (lw_of 270 (by decide +kernel))
  obtain ⟨coR, cAR, kAR, aR1, -, aR2, aR3, aR4⟩ := Cond.arrayOver_spec oR
  have oII : (Cond.arrayOver (.array .int)).before #[Value.ref b] s = true := hts _ (lw_of 309 (by decide +kernel))
  obtain ⟨coII, cII, kII, aII1, aII2, aII3, aII4⟩ := env_arr2 oII
  obtain ⟨dC, dI, hKc⟩ : ∃ (dC : Nat → ClassId) (dI : Nat → Nat → Nat), ∀ (k : Nat) (q : vw_C), vwCl[k]? = some q → u_Kn s q.1 q.2.1 q.2.2 (dC k) (dI k) := by
    refine ⟨fun k => if k = 0 then c0 else if k = 1 then c1 else if k = 2 then c2 else if k = 3 then c3 else if k = 4 then c4 else if k = 5 then c5 else if k = 6 then c6 else if k = 7 then c7 else if k = 8 then c8 else if k = 9 then c9 else if k = 10 then c10 else if k = 11 then c11 else c12, fun k => if k = 0 then iS0 else if k = 1 then iS1 else if k = 2 then iS2 else if k = 3 then iS3 else if k = 4 then iS4 else if k = 5 then iS5 else if k = 6 then iS6 else if k = 7 then iS7 else if k = 8 then iS8 else if k = 9 then iS9 else if k = 10 then iS10 else if k = 11 then iS11 else iS12, ?_⟩
    intro k q hq
    match k, hq with
    | 0, hq => cases hq; exact hKn0
    | 1, hq => cases hq; exact hKn1
    | 2, hq => cases hq; exact hKn2
    | 3, hq => cases hq; exact hKn3
    | 4, hq => cases hq; exact hKn4
    | 5, hq => cases hq; exact hKn5
    | 6, hq => cases hq; exact hKn6
    | 7, hq => cases hq; exact hKn7
    | 8, hq => cases hq; exact hKn8
    | 9, hq => cases hq; exact hKn9
    | 10, hq => cases hq; exact hKn10
    | 11, hq => cases hq; exact hKn11
    | 12, hq => cases hq; exact hKn12
    | k + 13, hq => simp [vwCl] at hq
  have hE : va_K (dC, dI) vwCl (tysOf ((dC, dI), fun k => if k = 0 then cAI else if k = 1 then cAB else if k = 2 then cAS else if k = 3 then cAR else cII)) s := by
    refine ⟨hKc, fun k q hq => ?_⟩
    match k, hq with
    | 0, hq => cases hq; exact ⟨fun n z => ⟨(fun q hq => by cases hq), kAI, aI2, coI, aI3⟩, aI1⟩
    | 1, hq => cases hq; exact ⟨fun n z => ⟨(fun q hq => by cases hq), kAB, aB2, coB, aB3⟩, aB1⟩
    | 2, hq => cases hq; exact ⟨fun n z => ⟨(fun q hq => by cases hq), kAS, aS2, coS, aS3⟩, kAS, coS, aS2, aS3, aS1, aS4⟩
    | 3, hq => cases hq; exact ⟨fun n z => ⟨(fun q hq => by cases hq), kAR, aR2, coR, aR3⟩, kAR, coR, aR2, aR3, aR1, aR4⟩
    | 4, hq => cases hq; exact ⟨fun n z => ⟨(fun q hq => by cases hq), kII, aII2, coII, aII3⟩, aII4⟩
    | k + 5, hq => simp at hq
  have hn : ∀ q ∈ nestL, va_Nw (.methodLinkNest q.1 q.2.1 q.2.2.1 q.2.2.2) s := by
    intro q hq
    simp only [nestL, List.mem_cons, List.not_mem_nil, or_false] at hq
    rcases hq with rfl | rfl | rfl | rfl | rfl | rfl | rfl | rfl | rfl | rfl | rfl | rfl | rfl
    · exact va_Nw.of rfl (hts _ (lw_of 95 (by decide +kernel)))
    · exact va_Nw.of rfl (hts _ (lw_of 102 (by decide +kernel)))
    · exact va_Nw.of rfl (hts _ (lw_of 109 (by decide +kernel)))
    · exact va_Nw.of rfl (hts _ (lw_of 116 (by decide +kernel)))
    · exact va_Nw.of rfl (hts _ (lw_of 123 (by decide +kernel)))
    · exact va_Nw.of rfl (hts _ (lw_of 130 (by decide +kernel)))
    · exact va_Nw.of rfl (hts _ (lw_of 137 (by decide +kernel)))
    · exact va_Nw.of rfl (hts _ (lw_of 105 (by decide +kernel)))
    · exact va_Nw.of rfl (hts _ (lw_of 112 (by decide +kernel)))
    · exact va_Nw.of rfl (hts _ (lw_of 119 (by decide +kernel)))
    · exact va_Nw.of rfl (hts _ (lw_of 140 (by decide +kernel)))
    · exact va_Nw.of rfl (hts _ (lw_of 126 (by decide +kernel)))
    · exact va_Nw.of rfl (hts _ (lw_of 133 (by decide +kernel)))
  have hc : ∀ c ∈ subS, va_Nw (.castable c "StandStill$Stander") s := by
    intro q hq
    simp only [subS, List.mem_cons, List.not_mem_nil, or_false] at hq
    rcases hq with rfl | rfl | rfl | rfl | rfl | rfl
    · exact va_Nw.of rfl (hts _ (lw_of 1344 (by decide +kernel)))
    · exact va_Nw.of rfl (hts _ (lw_of 1345 (by decide +kernel)))
    · exact va_Nw.of rfl (hts _ (lw_of 1346 (by decide +kernel)))
    · exact va_Nw.of rfl (hts _ (lw_of 1347 (by decide +kernel)))
    · exact va_Nw.of rfl (hts _ (lw_of 1348 (by decide +kernel)))
    · exact va_Nw.of rfl (hts _ (lw_of 1349 (by decide +kernel)))
  have hy : ∀ q ∈ cYes, va_Nw (.castable q.1 q.2) s := by
    intro q hq
    simp only [cYes, List.mem_cons, List.not_mem_nil, or_false] at hq
    rcases hq with rfl | rfl
    · exact va_Nw.of rfl (hts _ (lw_of 1342 (by decide +kernel)))
    · exact va_Nw.of rfl (hts _ (lw_of 1343 (by decide +kernel)))
  have hs := flat_of_before _ hgv
  have hno : ∀ q ∈ cNo, va_Nc q.1 q.2 s := by
    have key : ∀ q ∈ cNo, Cond.not (.castable q.1 q.2) ∈ flatC (Jvm.Cond.and given_1 narrow_1) := by decide +kernel
    exact fun q hq => va_Nc.of (hs _ (key q hq))
  obtain ⟨tN, eN, hTN⟩ := va_Tof (tm := (.static "StandStill" "NINES" "[I")) (ty := .int) (N := 4) (f := fun j => .int (tabN j)) (A := fun q => s.heap.size ≤ q) (by decide) (hs (.arrayOf (.static "StandStill" "NINES" "[I") .int) (by decide +kernel)) (va_eqt (hs (.eq (.length (.static "StandStill" "NINES" "[I")) (.int 4)) (by decide +kernel))) (fun j hj => by
    rcases (show j = 0 ∨ j = 1 ∨ j = 2 ∨ j = 3 by omega) with rfl | rfl | rfl | rfl
    · exact va_eqt (z := 1) (hs (.eq (.elem (.static "StandStill" "NINES" "[I") (.int 0)) (.int 1)) (by decide +kernel))
    · exact va_eqt (z := 9) (hs (.eq (.elem (.static "StandStill" "NINES" "[I") (.int 1)) (.int 9)) (by decide +kernel))
    · exact va_eqt (z := 81) (hs (.eq (.elem (.static "StandStill" "NINES" "[I") (.int 2)) (.int 81)) (by decide +kernel))
    · exact va_eqt (z := 729) (hs (.eq (.elem (.static "StandStill" "NINES" "[I") (.int 3)) (.int 729)) (by decide +kernel))) hA
  have hZN := va_Zref (hts (.laysStatic "StandStill" "NINES" "[I") (lw_of 684 (by decide +kernel))) (htt _ k_68) eN hA
  obtain ⟨tT, eT, hTT⟩ := va_Tof (tm := (.static "StandStill" "TENS" "[I")) (ty := .int) (N := 4) (f := fun j => .int (tabT j)) (A := fun q => s.heap.size ≤ q) (by decide) (hs (.arrayOf (.static "StandStill" "TENS" "[I") .int) (by decide +kernel)) (va_eqt (hs (.eq (.length (.static "StandStill" "TENS" "[I")) (.int 4)) (by decide +kernel))) (fun j hj => by
    rcases (show j = 0 ∨ j = 1 ∨ j = 2 ∨ j = 3 by omega) with rfl | rfl | rfl | rfl
    · exact va_eqt (z := 1) (hs (.eq (.elem (.static "StandStill" "TENS" "[I") (.int 0)) (.int 1)) (by decide +kernel))
    · exact va_eqt (z := 10) (hs (.eq (.elem (.static "StandStill" "TENS" "[I") (.int 1)) (.int 10)) (by decide +kernel))
    · exact va_eqt (z := 100) (hs (.eq (.elem (.static "StandStill" "TENS" "[I") (.int 2)) (.int 100)) (by decide +kernel))
    · exact va_eqt (z := 1000) (hs (.eq (.elem (.static "StandStill" "TENS" "[I") (.int 3)) (.int 1000)) (by decide +kernel))) hA
  have hZT := va_Zref (hts (.laysStatic "StandStill" "TENS" "[I") (lw_of 690 (by decide +kernel))) (htt _ k_68) eT hA
  exact ⟨((dC, dI), fun k => if k = 0 then cAI else if k = 1 then cAB else if k = 2 then cAS else if k = 3 then cAR else cII), tN, tT, hE, ⟨hn, hc, va_AO.of oS, va_AO.of oR, cII, kII, coII, aII2, aII3, aII1, aII4⟩, hZN, hTN, hZT, hTT, hno, hy⟩
