abbrev RT_Lt : Type := (Mem → Int32 → Option (Mem × Int32)) × (Mem → Int32 → Option (Mem × Int32)) × (Mem → Int32 → Option (Mem × Int32)) × (Mem → Int32 → Option (Mem × Int32)) × (Mem → Int32 → Option (Mem × Int32)) × (Mem → Int32 → Option (Mem × Int32)) × (Mem → Int32 → Option (Mem × Int32))
def HC_X1_readEither (f : Mem → Int32 → Option (Mem × Int32)) (F L : Nat) : Prop := ∀ (E : Ev) (h : Nat → Nat) (g : Nat → Option Nat) (μ : Mem) (x1 : Int32) (r : (Mem × Int32)), f μ x1 = some r → Ct E yX1_readEither cX1_readEither 4 (some .boolean) (rmOf F L) (wB E h g μ) (wB E h g r.1) [.ref (h 0), .int x1] (some (.int r.2))
def HC_X1_readBoth (f : Mem → Int32 → Option (Mem × Int32)) (F L : Nat) : Prop := ∀ (E : Ev) (h : Nat → Nat) (g : Nat → Option Nat) (μ : Mem) (x1 : Int32) (r : (Mem × Int32)), f μ x1 = some r → Ct E yX1_readBoth cX1_readBoth 4 (some .boolean) (rmOf F L) (wB E h g μ) (wB E h g r.1) [.ref (h 0), .int x1] (some (.int r.2))
def HC_X1_readCompared (f : Mem → Int32 → Option (Mem × Int32)) (F L : Nat) : Prop := ∀ (E : Ev) (h : Nat → Nat) (g : Nat → Option Nat) (μ : Mem) (x1 : Int32) (r : (Mem × Int32)), f μ x1 = some r → Ct E yX1_readCompared cX1_readCompared 4 (some .boolean) (rmOf F L) (wB E h g μ) (wB E h g r.1) [.ref (h 0), .int x1] (some (.int r.2))
def HC_X1_readSum (f : Mem → Int32 → Option (Mem × Int32)) (F L : Nat) : Prop := ∀ (E : Ev) (h : Nat → Nat) (g : Nat → Option Nat) (μ : Mem) (x1 : Int32) (r : (Mem × Int32)), f μ x1 = some r → Ct E yX1_readSum cX1_readSum 5 (some .boolean) (rmOf F L) (wB E h g μ) (wB E h g r.1) [.ref (h 0), .int x1] (some (.int r.2))
def HC_X1_readProduct (f : Mem → Int32 → Option (Mem × Int32)) (F L : Nat) : Prop := ∀ (E : Ev) (h : Nat → Nat) (g : Nat → Option Nat) (μ : Mem) (x1 : Int32) (r : (Mem × Int32)), f μ x1 = some r → Ct E yX1_readProduct cX1_readProduct 5 (some .boolean) (rmOf F L) (wB E h g μ) (wB E h g r.1) [.ref (h 0), .int x1] (some (.int r.2))
def HC_X1_readUnit (f : Mem → Int32 → Option (Mem × Int32)) (F L : Nat) : Prop := ∀ (E : Ev) (h : Nat → Nat) (g : Nat → Option Nat) (μ : Mem) (x1 : Int32) (r : (Mem × Int32)), f μ x1 = some r → Ct E yX1_readUnit cX1_readUnit 3 (some .boolean) (rmOf F L) (wB E h g μ) (wB E h g r.1) [.ref (h 0), .int x1] (some (.int r.2))
def HC_X1_readBracket (f : Mem → Int32 → Option (Mem × Int32)) (F L : Nat) : Prop := ∀ (E : Ev) (h : Nat → Nat) (g : Nat → Option Nat) (μ : Mem) (x1 : Int32) (r : (Mem × Int32)), f μ x1 = some r → Ct E yX1_readBracket cX1_readBracket 2 (some .boolean) (rmOf F L) (wB E h g μ) (wB E h g r.1) [.ref (h 0), .int x1] (some (.int r.2))
def f_X1_readEither_L8 (rec : RT_Lt) : Nat → Mem → Int32 → Int32 → Int32 → Option (Mem × Int32)
  | 0, _, _, _, _ => none
  | n + 1, μ, x1, x2, x3 => (if (60 : Int32) ≤ x3 then (if x2 = 0 ∨ x2 = 1 then some (μ, x2) else none) else (if x2 = 0 then (if x2 = 0 ∨ x2 = 1 then some (μ, x2) else none) else (f_X1_sees μ (124 : Int32)).bind fun q4 => ((if q4.2 = 0 then (if x2 = 0 ∨ x2 = 1 then some (q4.1, x2) else none) else bd (upA q4.1 0 (upd (q4.1 0) 8 ((q4.1 0 8) + (1 : Int32)))) fun μ6 => ((rec.2.1 μ6 x1).bind fun q7 => ((f_X1_write q7.1 (-124 : Int32)).bind fun q8 => ((f_X1_readEither_L8 rec n) q8 x1 q7.2 (x3 + (1 : Int32)))))))))
def f_X1_readEither_b (rec : RT_Lt) (μ : Mem) (x1 : Int32) : Option (Mem × Int32) := (rec.2.1 μ x1).bind fun q1 => (f_X1_readEither_L8 rec fuel0 q1.1 x1 q1.2 (0 : Int32))
set_option maxHeartbeats 4000000 in
set_option maxRecDepth 20000 in
theorem c_X1_readEither_b (rec : RT_Lt) (F L : Nat) (H0 : HC_X1_readEither rec.1 F L) (H1 : HC_X1_readBoth rec.2.1 F L) (H2 : HC_X1_readCompared rec.2.2.1 F L) (H3 : HC_X1_readSum rec.2.2.2.1 F L) (H4 : HC_X1_readProduct rec.2.2.2.2.1 F L) (H5 : HC_X1_readUnit rec.2.2.2.2.2.1 F L) (H6 : HC_X1_readBracket rec.2.2.2.2.2.2 F L) (E : Ev) (h : Nat → Nat) (g : Nat → Option Nat) {μ : Mem} {x1 : Int32} {r : (Mem × Int32)} (hf : f_X1_readEither_b rec μ x1 = some r) : Ct E yX1_readEither cX1_readEither 4 (some .boolean) (rmOf (F + 3) (L + 63)) (wB E h g μ) (wB E h g r.1) [.ref (h 0), .int x1] (some (.int r.2)) := by
  refine ct_start RX1 2 (by decide) rfl (Nat.le_of_ble_eq_true rfl) ?_
  intro p l e s m args below meth c A Q X hr hlk hQ
  have lab8 : ∀ (n : Nat) (μ : Mem) (x1 : Int32) (x2 : Int32) (x3 : Int32), f_X1_readEither_L8 rec n μ x1 x2 x3 = some r → J p l e (rmOf (F + 3) (L + 63)) s m args below meth c E A 4 Q (wB E h g μ) [some (.ref (h 0)), some (.int x1), some (.int x2), some (.int x3)] 8 [] := by
    intro n
    induction n with
    | zero => intro μ x1 x2 x3 hf; cases (show none = some r from hf)
    | succ n ih =>
      intro μ x1 x2 x3 hf
      rw [f_X1_readEither_L8] at hf
      refine j_iload_n X dX1_readEither_8 rfl rfl ?_
      refine j_bipush (v := (60 : Int32)) X dX1_readEither_9 (by decide) ?_
      refine j_icmp_ge (tgt := 55) X dX1_readEither_11 (by decide) (fun c_11 => ?_) (fun c_11 => ?_)
      · replace hf := (if_pos c_11).symm.trans hf
        refine j_iload_n X dX1_readEither_55 rfl rfl ?_
        obtain ⟨c2, hf⟩ := oi_t hf
        obtain rfl := Option.some.inj hf
        exact j_iret X hr hlk (nb01 c2) dX1_readEither_56 hQ
      · replace hf := (if_neg c_11).symm.trans hf
        refine j_iload_n X dX1_readEither_14 rfl rfl ?_
        refine j_if_eq (tgt := 55) X dX1_readEither_15 (by decide) (fun c_15 => ?_) (fun c_15 => ?_)
        · replace hf := (if_pos c_15).symm.trans hf
          refine j_iload_n X dX1_readEither_55 rfl rfl ?_
          obtain ⟨c3, hf⟩ := oi_t hf
          obtain rfl := Option.some.inj hf
          exact j_iret X hr hlk (nb01 c3) dX1_readEither_56 hQ
        · replace hf := (if_neg c_15).symm.trans hf
          refine j_aload_n X dX1_readEither_18 rfl rfl ?_
          refine j_bipush (v := (124 : Int32)) X dX1_readEither_19 (by decide) ?_
          obtain ⟨q4, g_q4, hf⟩ := ob_t hf
          refine j_callV X [0, 1, 2, 3, 4] 0 (c_X1_sees E h g g_q4) (cut_wB_wB_c ..) rfl rfl (ws' := (wB E h g q4.1)) (cut_wB_wB_w ..) (wB_0 ..) rfl k_568 k_570 k_15 k_77 k_571 (⟨rfl, rfl⟩) hdV_X1_sees ⟨by dsimp only [rmOf]; omega, by dsimp only [rmOf]; omega⟩ rfl (Nat.le_of_ble_eq_true rfl) rfl dX1_readEither_21 ?_
          refine j_if_eq (tgt := 55) X dX1_readEither_24 (by decide) (fun c_24 => ?_) (fun c_24 => ?_)
          · replace hf := (if_pos c_24).symm.trans hf
            refine j_iload_n X dX1_readEither_55 rfl rfl ?_
            obtain ⟨c5, hf⟩ := oi_t hf
            obtain rfl := Option.some.inj hf
            exact j_iret X hr hlk (nb01 c5) dX1_readEither_56 hQ
          · replace hf := (if_neg c_24).symm.trans hf
            refine j_aload_n X dX1_readEither_27 rfl rfl ?_
            refine j_dup X dX1_readEither_28 rfl ?_
            refine j_get (C := RX1) (T := TX1) (N := 9) X iX1 0 (wB_0 ..) rfl 8 (by decide) k_162 rfl rfl dX1_readEither_29 ?_
            refine j_iconst (v := (1 : Int32)) X dX1_readEither_32 (by decide) ?_
            refine j_iadd X dX1_readEither_33 ?_
            obtain ⟨μ6, e_μ6, hf⟩ := bd_e hf
            refine j_put (C := RX1) (T := TX1) (N := 9) X iX1 0 (wB_0 ..) rfl 8 (by decide) k_162 rfl tyX1 tyX1_ok nmX1 rfl (ty := .int) (by decide +kernel) rfl rfl (Nat.le_of_ble_eq_true rfl) dX1_readEither_34 (ws' := (wB E h g μ6)) (by rw [e_μ6]; exact wB_f0_8 ..) ?_
            refine j_aload_n X dX1_readEither_37 rfl rfl ?_
            refine j_iload_n X dX1_readEither_38 rfl rfl ?_
            obtain ⟨q7, g_q7, hf⟩ := ob_t hf
            refine j_callV X [0, 1, 2, 3, 4] 0 (H1 E h g _ _ _ g_q7) (cut_wB_wB_c ..) rfl rfl (ws' := (wB E h g q7.1)) (cut_wB_wB_w ..) (wB_0 ..) rfl k_528 k_530 k_5 k_77 k_531 (⟨rfl, rfl⟩) hdV_X1_readBoth ⟨by dsimp only [rmOf]; omega, by dsimp only [rmOf]; omega⟩ rfl (Nat.le_of_ble_eq_true rfl) rfl dX1_readEither_39 ?_
            refine j_istore_n2 X dX1_readEither_42 rfl (by decide) rfl ?_
            refine j_aload_n X dX1_readEither_43 rfl rfl ?_
            refine j_bipush (v := (-124 : Int32)) X dX1_readEither_44 (by decide) ?_
            obtain ⟨q8, g_q8, hf⟩ := ob_t hf
            refine j_callV X [0, 1, 2, 3, 4] 0 (c_X1_write E h g g_q8) (cut_wB_wB_c ..) rfl rfl (ws' := (wB E h g q8)) (cut_wB_wB_w ..) (wB_0 ..) rfl k_564 k_566 k_14 k_77 k_567 (⟨rfl, rfl⟩) hdV_X1_write ⟨by dsimp only [rmOf]; omega, by dsimp only [rmOf]; omega⟩ rfl (Nat.le_of_ble_eq_true rfl) rfl dX1_readEither_46 ?_
            refine j_iinc3 (k := (1 : Int32)) X dX1_readEither_49 (by decide) (by decide) rfl ?_
            refine j_goto (tgt := 8) X dX1_readEither_52 (by decide) ?_
            refine j_keep [true, true, true, true] rfl ?_
            exact ih _ _ _ _ hf
  rw [f_X1_readEither_b] at hf
  refine j_aload_n X dX1_readEither_0 rfl rfl ?_
  refine j_iload_n X dX1_readEither_1 rfl rfl ?_
  obtain ⟨q1, g_q1, hf⟩ := ob_t hf
  refine j_callV X [0, 1, 2, 3, 4] 0 (H1 E h g _ _ _ g_q1) (cut_wB_wB_c ..) rfl rfl (ws' := (wB E h g q1.1)) (cut_wB_wB_w ..) (wB_0 ..) rfl k_528 k_530 k_5 k_77 k_531 (⟨rfl, rfl⟩) hdV_X1_readBoth ⟨by dsimp only [rmOf]; omega, by dsimp only [rmOf]; omega⟩ rfl (Nat.le_of_ble_eq_true rfl) rfl dX1_readEither_2 ?_
  refine j_istore_n2 X dX1_readEither_5 rfl (by decide) rfl ?_
  refine j_iconst (v := (0 : Int32)) X dX1_readEither_6 (by decide) ?_
  refine j_istore_n3 X dX1_readEither_7 rfl (by decide) rfl ?_
  refine j_keep [true, true, true, true] rfl ?_
  exact lab8 _ _ _ _ _ hf
def f_X1_readBoth_L8 (rec : RT_Lt) : Nat → Mem → Int32 → Int32 → Int32 → Option (Mem × Int32)
  | 0, _, _, _, _ => none
  | n + 1, μ, x1, x2, x3 => (if (60 : Int32) ≤ x3 then (if x2 = 0 ∨ x2 = 1 then some (μ, x2) else none) else (if x2 = 0 then (if x2 = 0 ∨ x2 = 1 then some (μ, x2) else none) else (f_X1_sees μ (38 : Int32)).bind fun q4 => ((if q4.2 = 0 then (if x2 = 0 ∨ x2 = 1 then some (q4.1, x2) else none) else bd (upA q4.1 0 (upd (q4.1 0) 8 ((q4.1 0 8) + (1 : Int32)))) fun μ6 => ((rec.2.2.1 μ6 x1).bind fun q7 => ((f_X1_write q7.1 (-38 : Int32)).bind fun q8 => ((f_X1_readBoth_L8 rec n) q8 x1 q7.2 (x3 + (1 : Int32)))))))))
def f_X1_readBoth_b (rec : RT_Lt) (μ : Mem) (x1 : Int32) : Option (Mem × Int32) := (rec.2.2.1 μ x1).bind fun q1 => (f_X1_readBoth_L8 rec fuel0 q1.1 x1 q1.2 (0 : Int32))
set_option maxHeartbeats 4000000 in
set_option maxRecDepth 20000 in
theorem c_X1_readBoth_b (rec : RT_Lt) (F L : Nat) (H0 : HC_X1_readEither rec.1 F L) (H1 : HC_X1_readBoth rec.2.1 F L) (H2 : HC_X1_readCompared rec.2.2.1 F L) (H3 : HC_X1_readSum rec.2.2.2.1 F L) (H4 : HC_X1_readProduct rec.2.2.2.2.1 F L) (H5 : HC_X1_readUnit rec.2.2.2.2.2.1 F L) (H6 : HC_X1_readBracket rec.2.2.2.2.2.2 F L) (E : Ev) (h : Nat → Nat) (g : Nat → Option Nat) {μ : Mem} {x1 : Int32} {r : (Mem × Int32)} (hf : f_X1_readBoth_b rec μ x1 = some r) : Ct E yX1_readBoth cX1_readBoth 4 (some .boolean) (rmOf (F + 3) (L + 63)) (wB E h g μ) (wB E h g r.1) [.ref (h 0), .int x1] (some (.int r.2)) := by
  refine ct_start RX1 2 (by decide) rfl (Nat.le_of_ble_eq_true rfl) ?_
  intro p l e s m args below meth c A Q X hr hlk hQ
  have lab8 : ∀ (n : Nat) (μ : Mem) (x1 : Int32) (x2 : Int32) (x3 : Int32), f_X1_readBoth_L8 rec n μ x1 x2 x3 = some r → J p l e (rmOf (F + 3) (L + 63)) s m args below meth c E A 4 Q (wB E h g μ) [some (.ref (h 0)), some (.int x1), some (.int x2), some (.int x3)] 8 [] := by
    intro n
    induction n with
    | zero => intro μ x1 x2 x3 hf; cases (show none = some r from hf)
    | succ n ih =>
      intro μ x1 x2 x3 hf
      rw [f_X1_readBoth_L8] at hf
      refine j_iload_n X dX1_readBoth_8 rfl rfl ?_
      refine j_bipush (v := (60 : Int32)) X dX1_readBoth_9 (by decide) ?_
      refine j_icmp_ge (tgt := 55) X dX1_readBoth_11 (by decide) (fun c_11 => ?_) (fun c_11 => ?_)
      · replace hf := (if_pos c_11).symm.trans hf
        refine j_iload_n X dX1_readBoth_55 rfl rfl ?_
        obtain ⟨c2, hf⟩ := oi_t hf
        obtain rfl := Option.some.inj hf
        exact j_iret X hr hlk (nb01 c2) dX1_readBoth_56 hQ
      · replace hf := (if_neg c_11).symm.trans hf
        refine j_iload_n X dX1_readBoth_14 rfl rfl ?_
        refine j_if_eq (tgt := 55) X dX1_readBoth_15 (by decide) (fun c_15 => ?_) (fun c_15 => ?_)
        · replace hf := (if_pos c_15).symm.trans hf
          refine j_iload_n X dX1_readBoth_55 rfl rfl ?_
          obtain ⟨c3, hf⟩ := oi_t hf
          obtain rfl := Option.some.inj hf
          exact j_iret X hr hlk (nb01 c3) dX1_readBoth_56 hQ
        · replace hf := (if_neg c_15).symm.trans hf
          refine j_aload_n X dX1_readBoth_18 rfl rfl ?_
          refine j_bipush (v := (38 : Int32)) X dX1_readBoth_19 (by decide) ?_
          obtain ⟨q4, g_q4, hf⟩ := ob_t hf
          refine j_callV X [0, 1, 2, 3, 4] 0 (c_X1_sees E h g g_q4) (cut_wB_wB_c ..) rfl rfl (ws' := (wB E h g q4.1)) (cut_wB_wB_w ..) (wB_0 ..) rfl k_568 k_570 k_15 k_77 k_571 (⟨rfl, rfl⟩) hdV_X1_sees ⟨by dsimp only [rmOf]; omega, by dsimp only [rmOf]; omega⟩ rfl (Nat.le_of_ble_eq_true rfl) rfl dX1_readBoth_21 ?_
          refine j_if_eq (tgt := 55) X dX1_readBoth_24 (by decide) (fun c_24 => ?_) (fun c_24 => ?_)
          · replace hf := (if_pos c_24).symm.trans hf
            refine j_iload_n X dX1_readBoth_55 rfl rfl ?_
            obtain ⟨c5, hf⟩ := oi_t hf
            obtain rfl := Option.some.inj hf
            exact j_iret X hr hlk (nb01 c5) dX1_readBoth_56 hQ
          · replace hf := (if_neg c_24).symm.trans hf
            refine j_aload_n X dX1_readBoth_27 rfl rfl ?_
            refine j_dup X dX1_readBoth_28 rfl ?_
            refine j_get (C := RX1) (T := TX1) (N := 9) X iX1 0 (wB_0 ..) rfl 8 (by decide) k_162 rfl rfl dX1_readBoth_29 ?_
            refine j_iconst (v := (1 : Int32)) X dX1_readBoth_32 (by decide) ?_
            refine j_iadd X dX1_readBoth_33 ?_
            obtain ⟨μ6, e_μ6, hf⟩ := bd_e hf
            refine j_put (C := RX1) (T := TX1) (N := 9) X iX1 0 (wB_0 ..) rfl 8 (by decide) k_162 rfl tyX1 tyX1_ok nmX1 rfl (ty := .int) (by decide +kernel) rfl rfl (Nat.le_of_ble_eq_true rfl) dX1_readBoth_34 (ws' := (wB E h g μ6)) (by rw [e_μ6]; exact wB_f0_8 ..) ?_
            refine j_aload_n X dX1_readBoth_37 rfl rfl ?_
            refine j_iload_n X dX1_readBoth_38 rfl rfl ?_
            obtain ⟨q7, g_q7, hf⟩ := ob_t hf
            refine j_callV X [0, 1, 2, 3, 4] 0 (H2 E h g _ _ _ g_q7) (cut_wB_wB_c ..) rfl rfl (ws' := (wB E h g q7.1)) (cut_wB_wB_w ..) (wB_0 ..) rfl k_532 k_534 k_6 k_77 k_535 (⟨rfl, rfl⟩) hdV_X1_readCompared ⟨by dsimp only [rmOf]; omega, by dsimp only [rmOf]; omega⟩ rfl (Nat.le_of_ble_eq_true rfl) rfl dX1_readBoth_39 ?_
            refine j_istore_n2 X dX1_readBoth_42 rfl (by decide) rfl ?_
            refine j_aload_n X dX1_readBoth_43 rfl rfl ?_
            refine j_bipush (v := (-38 : Int32)) X dX1_readBoth_44 (by decide) ?_
            obtain ⟨q8, g_q8, hf⟩ := ob_t hf
            refine j_callV X [0, 1, 2, 3, 4] 0 (c_X1_write E h g g_q8) (cut_wB_wB_c ..) rfl rfl (ws' := (wB E h g q8)) (cut_wB_wB_w ..) (wB_0 ..) rfl k_564 k_566 k_14 k_77 k_567 (⟨rfl, rfl⟩) hdV_X1_write ⟨by dsimp only [rmOf]; omega, by dsimp only [rmOf]; omega⟩ rfl (Nat.le_of_ble_eq_true rfl) rfl dX1_readBoth_46 ?_
            refine j_iinc3 (k := (1 : Int32)) X dX1_readBoth_49 (by decide) (by decide) rfl ?_
            refine j_goto (tgt := 8) X dX1_readBoth_52 (by decide) ?_
            refine j_keep [true, true, true, true] rfl ?_
            exact ih _ _ _ _ hf
  rw [f_X1_readBoth_b] at hf
  refine j_aload_n X dX1_readBoth_0 rfl rfl ?_
  refine j_iload_n X dX1_readBoth_1 rfl rfl ?_
  obtain ⟨q1, g_q1, hf⟩ := ob_t hf
  refine j_callV X [0, 1, 2, 3, 4] 0 (H2 E h g _ _ _ g_q1) (cut_wB_wB_c ..) rfl rfl (ws' := (wB E h g q1.1)) (cut_wB_wB_w ..) (wB_0 ..) rfl k_532 k_534 k_6 k_77 k_535 (⟨rfl, rfl⟩) hdV_X1_readCompared ⟨by dsimp only [rmOf]; omega, by dsimp only [rmOf]; omega⟩ rfl (Nat.le_of_ble_eq_true rfl) rfl dX1_readBoth_2 ?_
  refine j_istore_n2 X dX1_readBoth_5 rfl (by decide) rfl ?_
  refine j_iconst (v := (0 : Int32)) X dX1_readBoth_6 (by decide) ?_
  refine j_istore_n3 X dX1_readBoth_7 rfl (by decide) rfl ?_
  refine j_keep [true, true, true, true] rfl ?_
  exact lab8 _ _ _ _ _ hf
def f_X1_readCompared_L37 (rec : RT_Lt) (μ : Mem) (x1 : Int32) : Option (Mem × Int32) := (f_X1_takeSign μ).bind fun q4 => ((rec.2.2.2.1 q4.1 x1).bind fun q5 => ((f_X1_write q5.1 (-q4.2)).bind fun q6 => ((if q5.2 = 0 ∨ q5.2 = 1 then some (q6, q5.2) else none))))
def f_X1_readCompared_b (rec : RT_Lt) (μ : Mem) (x1 : Int32) : Option (Mem × Int32) := (rec.2.2.2.1 μ x1).bind fun q1 => ((if q1.2 = 0 then (if q1.2 = 0 ∨ q1.2 = 1 then some (q1.1, q1.2) else none) else (f_X1_sees q1.1 (60 : Int32)).bind fun q3 => ((if q3.2 = 0 then (f_X1_sees q3.1 (61 : Int32)).bind fun q8 => ((if q8.2 = 0 then (f_X1_sees q8.1 (62 : Int32)).bind fun q9 => ((if q9.2 = 0 then (if q1.2 = 0 ∨ q1.2 = 1 then some (q9.1, q1.2) else none) else f_X1_readCompared_L37 rec q9.1 x1)) else f_X1_readCompared_L37 rec q8.1 x1)) else f_X1_readCompared_L37 rec q3.1 x1))))
set_option maxHeartbeats 4000000 in
set_option maxRecDepth 20000 in
theorem c_X1_readCompared_b (rec : RT_Lt) (F L : Nat) (H0 : HC_X1_readEither rec.1 F L) (H1 : HC_X1_readBoth rec.2.1 F L) (H2 : HC_X1_readCompared rec.2.2.1 F L) (H3 : HC_X1_readSum rec.2.2.2.1 F L) (H4 : HC_X1_readProduct rec.2.2.2.2.1 F L) (H5 : HC_X1_readUnit rec.2.2.2.2.2.1 F L) (H6 : HC_X1_readBracket rec.2.2.2.2.2.2 F L) (E : Ev) (h : Nat → Nat) (g : Nat → Option Nat) {μ : Mem} {x1 : Int32} {r : (Mem × Int32)} (hf : f_X1_readCompared_b rec μ x1 = some r) : Ct E yX1_readCompared cX1_readCompared 4 (some .boolean) (rmOf (F + 3) (L + 63)) (wB E h g μ) (wB E h g r.1) [.ref (h 0), .int x1] (some (.int r.2)) := by
  refine ct_start RX1 2 (by decide) rfl (Nat.le_of_ble_eq_true rfl) ?_
  intro p l e s m args below meth c A Q X hr hlk hQ
  have lab37 : ∀ (μ : Mem) (x1 : Int32), f_X1_readCompared_L37 rec μ x1 = some r → J p l e (rmOf (F + 3) (L + 63)) s m args below meth c E A 4 Q (wB E h g μ) [some (.ref (h 0)), some (.int x1), none, none] 37 [] := by
    intro  μ x1 hf
    rw [f_X1_readCompared_L37] at hf
    refine j_aload_n X dX1_readCompared_37 rfl rfl ?_
    obtain ⟨q4, g_q4, hf⟩ := ob_t hf
    refine j_callV X [0, 1, 2, 3, 4] 0 (c_X1_takeSign E h g g_q4) (cut_wB_wB_c ..) rfl rfl (ws' := (wB E h g q4.1)) (cut_wB_wB_w ..) (wB_0 ..) rfl k_560 k_562 k_13 k_77 k_563 (⟨rfl, rfl⟩) hdV_X1_takeSign ⟨by dsimp only [rmOf]; omega, by dsimp only [rmOf]; omega⟩ rfl (Nat.le_of_ble_eq_true rfl) rfl dX1_readCompared_38 ?_
    refine j_istore_n3 X dX1_readCompared_41 rfl (by decide) rfl ?_
    refine j_aload_n X dX1_readCompared_42 rfl rfl ?_
    refine j_iload_n X dX1_readCompared_43 rfl rfl ?_
    obtain ⟨q5, g_q5, hf⟩ := ob_t hf
    refine j_callV X [0, 1, 2, 3, 4] 0 (H3 E h g _ _ _ g_q5) (cut_wB_wB_c ..) rfl rfl (ws' := (wB E h g q5.1)) (cut_wB_wB_w ..) (wB_0 ..) rfl k_536 k_538 k_7 k_77 k_539 (⟨rfl, rfl⟩) hdV_X1_readSum ⟨by dsimp only [rmOf]; omega, by dsimp only [rmOf]; omega⟩ rfl (Nat.le_of_ble_eq_true rfl) rfl dX1_readCompared_44 ?_
    refine j_istore_n2 X dX1_readCompared_47 rfl (by decide) rfl ?_
    refine j_aload_n X dX1_readCompared_48 rfl rfl ?_
    refine j_iload_n X dX1_readCompared_49 rfl rfl ?_
    refine j_ineg X dX1_readCompared_50 ?_
    obtain ⟨q6, g_q6, hf⟩ := ob_t hf
    refine j_callV X [0, 1, 2, 3, 4] 0 (c_X1_write E h g g_q6) (cut_wB_wB_c ..) rfl rfl (ws' := (wB E h g q6)) (cut_wB_wB_w ..) (wB_0 ..) rfl k_564 k_566 k_14 k_77 k_567 (⟨rfl, rfl⟩) hdV_X1_write ⟨by dsimp only [rmOf]; omega, by dsimp only [rmOf]; omega⟩ rfl (Nat.le_of_ble_eq_true rfl) rfl dX1_readCompared_51 ?_
    refine j_iload_n X dX1_readCompared_54 rfl rfl ?_
    obtain ⟨c7, hf⟩ := oi_t hf
    obtain rfl := Option.some.inj hf
    exact j_iret X hr hlk (nb01 c7) dX1_readCompared_55 hQ
  rw [f_X1_readCompared_b] at hf
  refine j_aload_n X dX1_readCompared_0 rfl rfl ?_
  refine j_iload_n X dX1_readCompared_1 rfl rfl ?_
  obtain ⟨q1, g_q1, hf⟩ := ob_t hf
  refine j_callV X [0, 1, 2, 3, 4] 0 (H3 E h g _ _ _ g_q1) (cut_wB_wB_c ..) rfl rfl (ws' := (wB E h g q1.1)) (cut_wB_wB_w ..) (wB_0 ..) rfl k_536 k_538 k_7 k_77 k_539 (⟨rfl, rfl⟩) hdV_X1_readSum ⟨by dsimp only [rmOf]; omega, by dsimp only [rmOf]; omega⟩ rfl (Nat.le_of_ble_eq_true rfl) rfl dX1_readCompared_2 ?_
  refine j_istore_n2 X dX1_readCompared_5 rfl (by decide) rfl ?_
  refine j_iload_n X dX1_readCompared_6 rfl rfl ?_
  refine j_if_eq (tgt := 54) X dX1_readCompared_7 (by decide) (fun c_7 => ?_) (fun c_7 => ?_)
  · replace hf := (if_pos c_7).symm.trans hf
    refine j_iload_n X dX1_readCompared_54 rfl rfl ?_
    obtain ⟨c2, hf⟩ := oi_t hf
    obtain rfl := Option.some.inj hf
    exact j_iret X hr hlk (nb01 c2) dX1_readCompared_55 hQ
  · replace hf := (if_neg c_7).symm.trans hf
    refine j_aload_n X dX1_readCompared_10 rfl rfl ?_
    refine j_bipush (v := (60 : Int32)) X dX1_readCompared_11 (by decide) ?_
    obtain ⟨q3, g_q3, hf⟩ := ob_t hf
    refine j_callV X [0, 1, 2, 3, 4] 0 (c_X1_sees E h g g_q3) (cut_wB_wB_c ..) rfl rfl (ws' := (wB E h g q3.1)) (cut_wB_wB_w ..) (wB_0 ..) rfl k_568 k_570 k_15 k_77 k_571 (⟨rfl, rfl⟩) hdV_X1_sees ⟨by dsimp only [rmOf]; omega, by dsimp only [rmOf]; omega⟩ rfl (Nat.le_of_ble_eq_true rfl) rfl dX1_readCompared_13 ?_
    refine j_if_ne (tgt := 37) X dX1_readCompared_16 (by decide) (fun c_16 => ?_) (fun c_16 => ?_)
    · replace hf := (if_neg c_16).symm.trans hf
      refine j_keep [true, true, false, false] rfl ?_
      exact lab37 _ _ hf
    · replace hf := (if_pos c_16).symm.trans hf
      refine j_aload_n X dX1_readCompared_19 rfl rfl ?_
      refine j_bipush (v := (61 : Int32)) X dX1_readCompared_20 (by decide) ?_
      obtain ⟨q8, g_q8, hf⟩ := ob_t hf
      refine j_callV X [0, 1, 2, 3, 4] 0 (c_X1_sees E h g g_q8) (cut_wB_wB_c ..) rfl rfl (ws' := (wB E h g q8.1)) (cut_wB_wB_w ..) (wB_0 ..) rfl k_568 k_570 k_15 k_77 k_571 (⟨rfl, rfl⟩) hdV_X1_sees ⟨by dsimp only [rmOf]; omega, by dsimp only [rmOf]; omega⟩ rfl (Nat.le_of_ble_eq_true rfl) rfl dX1_readCompared_22 ?_
      refine j_if_ne (tgt := 37) X dX1_readCompared_25 (by decide) (fun c_25 => ?_) (fun c_25 => ?_)
      · replace hf := (if_neg c_25).symm.trans hf
        refine j_keep [true, true, false, false] rfl ?_
        exact lab37 _ _ hf
      · replace hf := (if_pos c_25).symm.trans hf
        refine j_aload_n X dX1_readCompared_28 rfl rfl ?_
        refine j_bipush (v := (62 : Int32)) X dX1_readCompared_29 (by decide) ?_
        obtain ⟨q9, g_q9, hf⟩ := ob_t hf
        refine j_callV X [0, 1, 2, 3, 4] 0 (c_X1_sees E h g g_q9) (cut_wB_wB_c ..) rfl rfl (ws' := (wB E h g q9.1)) (cut_wB_wB_w ..) (wB_0 ..) rfl k_568 k_570 k_15 k_77 k_571 (⟨rfl, rfl⟩) hdV_X1_sees ⟨by dsimp only [rmOf]; omega, by dsimp only [rmOf]; omega⟩ rfl (Nat.le_of_ble_eq_true rfl) rfl dX1_readCompared_31 ?_
        refine j_if_eq (tgt := 54) X dX1_readCompared_34 (by decide) (fun c_34 => ?_) (fun c_34 => ?_)
        · replace hf := (if_pos c_34).symm.trans hf
          refine j_iload_n X dX1_readCompared_54 rfl rfl ?_
          obtain ⟨c10, hf⟩ := oi_t hf
          obtain rfl := Option.some.inj hf
          exact j_iret X hr hlk (nb01 c10) dX1_readCompared_55 hQ
        · replace hf := (if_neg c_34).symm.trans hf
          refine j_keep [true, true, false, false] rfl ?_
          exact lab37 _ _ hf
def f_X1_readSum_L36 (rec : RT_Lt) (K8 : Mem → Int32 → Int32 → Int32 → Option (Mem × Int32)) (μ : Mem) (x1 : Int32) (x3 : Int32) : Option (Mem × Int32) := (f_X1_takeSign μ).bind fun q5 => ((rec.2.2.2.2.1 q5.1 x1).bind fun q6 => ((f_X1_write q6.1 (-q5.2)).bind fun q7 => (K8 q7 x1 q6.2 (x3 + (1 : Int32)))))
def f_X1_readSum_L8 (rec : RT_Lt) : Nat → Mem → Int32 → Int32 → Int32 → Option (Mem × Int32)
  | 0, _, _, _, _ => none
  | n + 1, μ, x1, x2, x3 => (if (60 : Int32) ≤ x3 then (if x2 = 0 ∨ x2 = 1 then some (μ, x2) else none) else (if x2 = 0 then (if x2 = 0 ∨ x2 = 1 then some (μ, x2) else none) else (f_X1_sees μ (43 : Int32)).bind fun q4 => ((if q4.2 = 0 then (f_X1_sees q4.1 (45 : Int32)).bind fun q8 => ((if q8.2 = 0 then (if x2 = 0 ∨ x2 = 1 then some (q8.1, x2) else none) else f_X1_readSum_L36 rec (f_X1_readSum_L8 rec n) q8.1 x1 x3)) else f_X1_readSum_L36 rec (f_X1_readSum_L8 rec n) q4.1 x1 x3))))
def f_X1_readSum_b (rec : RT_Lt) (μ : Mem) (x1 : Int32) : Option (Mem × Int32) := (rec.2.2.2.2.1 μ x1).bind fun q1 => (f_X1_readSum_L8 rec fuel0 q1.1 x1 q1.2 (0 : Int32))
set_option maxHeartbeats 4000000 in
set_option maxRecDepth 20000 in
theorem c_X1_readSum_b (rec : RT_Lt) (F L : Nat) (H0 : HC_X1_readEither rec.1 F L) (H1 : HC_X1_readBoth rec.2.1 F L) (H2 : HC_X1_readCompared rec.2.2.1 F L) (H3 : HC_X1_readSum rec.2.2.2.1 F L) (H4 : HC_X1_readProduct rec.2.2.2.2.1 F L) (H5 : HC_X1_readUnit rec.2.2.2.2.2.1 F L) (H6 : HC_X1_readBracket rec.2.2.2.2.2.2 F L) (E : Ev) (h : Nat → Nat) (g : Nat → Option Nat) {μ : Mem} {x1 : Int32} {r : (Mem × Int32)} (hf : f_X1_readSum_b rec μ x1 = some r) : Ct E yX1_readSum cX1_readSum 5 (some .boolean) (rmOf (F + 3) (L + 63)) (wB E h g μ) (wB E h g r.1) [.ref (h 0), .int x1] (some (.int r.2)) := by
  refine ct_start RX1 3 (by decide) rfl (Nat.le_of_ble_eq_true rfl) ?_
  intro p l e s m args below meth c A Q X hr hlk hQ
  have lab36 : ∀ (K8 : Mem → Int32 → Int32 → Int32 → Option (Mem × Int32)) (hK8 : ∀ (μ : Mem) (x1 : Int32) (x2 : Int32) (x3 : Int32), K8 μ x1 x2 x3 = some r → J p l e (rmOf (F + 3) (L + 63)) s m args below meth c E A 5 Q (wB E h g μ) [some (.ref (h 0)), some (.int x1), some (.int x2), some (.int x3), none] 8 []) (μ : Mem) (x1 : Int32) (x3 : Int32), f_X1_readSum_L36 rec K8 μ x1 x3 = some r → J p l e (rmOf (F + 3) (L + 63)) s m args below meth c E A 5 Q (wB E h g μ) [some (.ref (h 0)), some (.int x1), none, some (.int x3), none] 36 [] := by
    intro K8 hK8 μ x1 x3 hf
    rw [f_X1_readSum_L36] at hf
    refine j_aload_n X dX1_readSum_36 rfl rfl ?_
    obtain ⟨q5, g_q5, hf⟩ := ob_t hf
    refine j_callV X [0, 1, 2, 3, 4] 0 (c_X1_takeSign E h g g_q5) (cut_wB_wB_c ..) rfl rfl (ws' := (wB E h g q5.1)) (cut_wB_wB_w ..) (wB_0 ..) rfl k_560 k_562 k_13 k_77 k_563 (⟨rfl, rfl⟩) hdV_X1_takeSign ⟨by dsimp only [rmOf]; omega, by dsimp only [rmOf]; omega⟩ rfl (Nat.le_of_ble_eq_true rfl) rfl dX1_readSum_37 ?_
    refine j_istore4 X dX1_readSum_40 (by decide) rfl ?_
    refine j_aload_n X dX1_readSum_42 rfl rfl ?_
    refine j_iload_n X dX1_readSum_43 rfl rfl ?_
    obtain ⟨q6, g_q6, hf⟩ := ob_t hf
    refine j_callV X [0, 1, 2, 3, 4] 0 (H4 E h g _ _ _ g_q6) (cut_wB_wB_c ..) rfl rfl (ws' := (wB E h g q6.1)) (cut_wB_wB_w ..) (wB_0 ..) rfl k_540 k_542 k_8 k_77 k_543 (⟨rfl, rfl⟩) hdV_X1_readProduct ⟨by dsimp only [rmOf]; omega, by dsimp only [rmOf]; omega⟩ rfl (Nat.le_of_ble_eq_true rfl) rfl dX1_readSum_44 ?_
    refine j_istore_n2 X dX1_readSum_47 rfl (by decide) rfl ?_
    refine j_aload_n X dX1_readSum_48 rfl rfl ?_
    refine j_iload X dX1_readSum_49 rfl ?_
    refine j_ineg X dX1_readSum_51 ?_
    obtain ⟨q7, g_q7, hf⟩ := ob_t hf
    refine j_callV X [0, 1, 2, 3, 4] 0 (c_X1_write E h g g_q7) (cut_wB_wB_c ..) rfl rfl (ws' := (wB E h g q7)) (cut_wB_wB_w ..) (wB_0 ..) rfl k_564 k_566 k_14 k_77 k_567 (⟨rfl, rfl⟩) hdV_X1_write ⟨by dsimp only [rmOf]; omega, by dsimp only [rmOf]; omega⟩ rfl (Nat.le_of_ble_eq_true rfl) rfl dX1_readSum_52 ?_
    refine j_iinc3 (k := (1 : Int32)) X dX1_readSum_55 (by decide) (by decide) rfl ?_
    refine j_goto (tgt := 8) X dX1_readSum_58 (by decide) ?_
    refine j_keep [true, true, true, true, false] rfl ?_
    exact hK8 _ _ _ _ hf
  have lab8 : ∀ (n : Nat) (μ : Mem) (x1 : Int32) (x2 : Int32) (x3 : Int32), f_X1_readSum_L8 rec n μ x1 x2 x3 = some r → J p l e (rmOf (F + 3) (L + 63)) s m args below meth c E A 5 Q (wB E h g μ) [some (.ref (h 0)), some (.int x1), some (.int x2), some (.int x3), none] 8 [] := by
    intro n
    induction n with
    | zero => intro μ x1 x2 x3 hf; cases (show none = some r from hf)
    | succ n ih =>
      intro μ x1 x2 x3 hf
      rw [f_X1_readSum_L8] at hf
      refine j_iload_n X dX1_readSum_8 rfl rfl ?_
      refine j_bipush (v := (60 : Int32)) X dX1_readSum_9 (by decide) ?_
      refine j_icmp_ge (tgt := 61) X dX1_readSum_11 (by decide) (fun c_11 => ?_) (fun c_11 => ?_)
      · replace hf := (if_pos c_11).symm.trans hf
        refine j_iload_n X dX1_readSum_61 rfl rfl ?_
        obtain ⟨c2, hf⟩ := oi_t hf
        obtain rfl := Option.some.inj hf
        exact j_iret X hr hlk (nb01 c2) dX1_readSum_62 hQ
      · replace hf := (if_neg c_11).symm.trans hf
        refine j_iload_n X dX1_readSum_14 rfl rfl ?_
        refine j_if_eq (tgt := 61) X dX1_readSum_15 (by decide) (fun c_15 => ?_) (fun c_15 => ?_)
        · replace hf := (if_pos c_15).symm.trans hf
          refine j_iload_n X dX1_readSum_61 rfl rfl ?_
          obtain ⟨c3, hf⟩ := oi_t hf
          obtain rfl := Option.some.inj hf
          exact j_iret X hr hlk (nb01 c3) dX1_readSum_62 hQ
        · replace hf := (if_neg c_15).symm.trans hf
          refine j_aload_n X dX1_readSum_18 rfl rfl ?_
          refine j_bipush (v := (43 : Int32)) X dX1_readSum_19 (by decide) ?_
          obtain ⟨q4, g_q4, hf⟩ := ob_t hf
          refine j_callV X [0, 1, 2, 3, 4] 0 (c_X1_sees E h g g_q4) (cut_wB_wB_c ..) rfl rfl (ws' := (wB E h g q4.1)) (cut_wB_wB_w ..) (wB_0 ..) rfl k_568 k_570 k_15 k_77 k_571 (⟨rfl, rfl⟩) hdV_X1_sees ⟨by dsimp only [rmOf]; omega, by dsimp only [rmOf]; omega⟩ rfl (Nat.le_of_ble_eq_true rfl) rfl dX1_readSum_21 ?_
          refine j_if_ne (tgt := 36) X dX1_readSum_24 (by decide) (fun c_24 => ?_) (fun c_24 => ?_)
          · replace hf := (if_neg c_24).symm.trans hf
            refine j_keep [true, true, false, true, false] rfl ?_
            exact lab36 _ ih _ _ _ hf
          · replace hf := (if_pos c_24).symm.trans hf
            refine j_aload_n X dX1_readSum_27 rfl rfl ?_
            refine j_bipush (v := (45 : Int32)) X dX1_readSum_28 (by decide) ?_
            obtain ⟨q8, g_q8, hf⟩ := ob_t hf
            refine j_callV X [0, 1, 2, 3, 4] 0 (c_X1_sees E h g g_q8) (cut_wB_wB_c ..) rfl rfl (ws' := (wB E h g q8.1)) (cut_wB_wB_w ..) (wB_0 ..) rfl k_568 k_570 k_15 k_77 k_571 (⟨rfl, rfl⟩) hdV_X1_sees ⟨by dsimp only [rmOf]; omega, by dsimp only [rmOf]; omega⟩ rfl (Nat.le_of_ble_eq_true rfl) rfl dX1_readSum_30 ?_
            refine j_if_eq (tgt := 61) X dX1_readSum_33 (by decide) (fun c_33 => ?_) (fun c_33 => ?_)
            · replace hf := (if_pos c_33).symm.trans hf
              refine j_iload_n X dX1_readSum_61 rfl rfl ?_
              obtain ⟨c9, hf⟩ := oi_t hf
              obtain rfl := Option.some.inj hf
              exact j_iret X hr hlk (nb01 c9) dX1_readSum_62 hQ
            · replace hf := (if_neg c_33).symm.trans hf
              refine j_keep [true, true, false, true, false] rfl ?_
              exact lab36 _ ih _ _ _ hf
  rw [f_X1_readSum_b] at hf
  refine j_aload_n X dX1_readSum_0 rfl rfl ?_
  refine j_iload_n X dX1_readSum_1 rfl rfl ?_
  obtain ⟨q1, g_q1, hf⟩ := ob_t hf
  refine j_callV X [0, 1, 2, 3, 4] 0 (H4 E h g _ _ _ g_q1) (cut_wB_wB_c ..) rfl rfl (ws' := (wB E h g q1.1)) (cut_wB_wB_w ..) (wB_0 ..) rfl k_540 k_542 k_8 k_77 k_543 (⟨rfl, rfl⟩) hdV_X1_readProduct ⟨by dsimp only [rmOf]; omega, by dsimp only [rmOf]; omega⟩ rfl (Nat.le_of_ble_eq_true rfl) rfl dX1_readSum_2 ?_
  refine j_istore_n2 X dX1_readSum_5 rfl (by decide) rfl ?_
  refine j_iconst (v := (0 : Int32)) X dX1_readSum_6 (by decide) ?_
  refine j_istore_n3 X dX1_readSum_7 rfl (by decide) rfl ?_
  refine j_keep [true, true, true, true, false] rfl ?_
  exact lab8 _ _ _ _ _ hf
def f_X1_readProduct_L45 (rec : RT_Lt) (K8 : Mem → Int32 → Int32 → Int32 → Option (Mem × Int32)) (μ : Mem) (x1 : Int32) (x3 : Int32) : Option (Mem × Int32) := (f_X1_takeSign μ).bind fun q5 => ((rec.2.2.2.2.2.1 q5.1 x1).bind fun q6 => ((f_X1_write q6.1 (-q5.2)).bind fun q7 => (K8 q7 x1 q6.2 (x3 + (1 : Int32)))))
def f_X1_readProduct_L8 (rec : RT_Lt) : Nat → Mem → Int32 → Int32 → Int32 → Option (Mem × Int32)
  | 0, _, _, _, _ => none
  | n + 1, μ, x1, x2, x3 => (if (60 : Int32) ≤ x3 then (if x2 = 0 ∨ x2 = 1 then some (μ, x2) else none) else (if x2 = 0 then (if x2 = 0 ∨ x2 = 1 then some (μ, x2) else none) else (f_X1_sees μ (42 : Int32)).bind fun q4 => ((if q4.2 = 0 then (f_X1_sees q4.1 (47 : Int32)).bind fun q8 => ((if q8.2 = 0 then (f_X1_sees q8.1 (37 : Int32)).bind fun q9 => ((if q9.2 = 0 then (if x2 = 0 ∨ x2 = 1 then some (q9.1, x2) else none) else f_X1_readProduct_L45 rec (f_X1_readProduct_L8 rec n) q9.1 x1 x3)) else f_X1_readProduct_L45 rec (f_X1_readProduct_L8 rec n) q8.1 x1 x3)) else f_X1_readProduct_L45 rec (f_X1_readProduct_L8 rec n) q4.1 x1 x3))))
def f_X1_readProduct_b (rec : RT_Lt) (μ : Mem) (x1 : Int32) : Option (Mem × Int32) := (rec.2.2.2.2.2.1 μ x1).bind fun q1 => (f_X1_readProduct_L8 rec fuel0 q1.1 x1 q1.2 (0 : Int32))
set_option maxHeartbeats 4000000 in
set_option maxRecDepth 20000 in
theorem c_X1_readProduct_b (rec : RT_Lt) (F L : Nat) (H0 : HC_X1_readEither rec.1 F L) (H1 : HC_X1_readBoth rec.2.1 F L) (H2 : HC_X1_readCompared rec.2.2.1 F L) (H3 : HC_X1_readSum rec.2.2.2.1 F L) (H4 : HC_X1_readProduct rec.2.2.2.2.1 F L) (H5 : HC_X1_readUnit rec.2.2.2.2.2.1 F L) (H6 : HC_X1_readBracket rec.2.2.2.2.2.2 F L) (E : Ev) (h : Nat → Nat) (g : Nat → Option Nat) {μ : Mem} {x1 : Int32} {r : (Mem × Int32)} (hf : f_X1_readProduct_b rec μ x1 = some r) : Ct E yX1_readProduct cX1_readProduct 5 (some .boolean) (rmOf (F + 3) (L + 63)) (wB E h g μ) (wB E h g r.1) [.ref (h 0), .int x1] (some (.int r.2)) := by
  refine ct_start RX1 3 (by decide) rfl (Nat.le_of_ble_eq_true rfl) ?_
  intro p l e s m args below meth c A Q X hr hlk hQ
  have lab45 : ∀ (K8 : Mem → Int32 → Int32 → Int32 → Option (Mem × Int32)) (hK8 : ∀ (μ : Mem) (x1 : Int32) (x2 : Int32) (x3 : Int32), K8 μ x1 x2 x3 = some r → J p l e (rmOf (F + 3) (L + 63)) s m args below meth c E A 5 Q (wB E h g μ) [some (.ref (h 0)), some (.int x1), some (.int x2), some (.int x3), none] 8 []) (μ : Mem) (x1 : Int32) (x3 : Int32), f_X1_readProduct_L45 rec K8 μ x1 x3 = some r → J p l e (rmOf (F + 3) (L + 63)) s m args below meth c E A 5 Q (wB E h g μ) [some (.ref (h 0)), some (.int x1), none, some (.int x3), none] 45 [] := by
    intro K8 hK8 μ x1 x3 hf
    rw [f_X1_readProduct_L45] at hf
    refine j_aload_n X dX1_readProduct_45 rfl rfl ?_
    obtain ⟨q5, g_q5, hf⟩ := ob_t hf
    refine j_callV X [0, 1, 2, 3, 4] 0 (c_X1_takeSign E h g g_q5) (cut_wB_wB_c ..) rfl rfl (ws' := (wB E h g q5.1)) (cut_wB_wB_w ..) (wB_0 ..) rfl k_560 k_562 k_13 k_77 k_563 (⟨rfl, rfl⟩) hdV_X1_takeSign ⟨by dsimp only [rmOf]; omega, by dsimp only [rmOf]; omega⟩ rfl (Nat.le_of_ble_eq_true rfl) rfl dX1_readProduct_46 ?_
    refine j_istore4 X dX1_readProduct_49 (by decide) rfl ?_
    refine j_aload_n X dX1_readProduct_51 rfl rfl ?_
    refine j_iload_n X dX1_readProduct_52 rfl rfl ?_
    obtain ⟨q6, g_q6, hf⟩ := ob_t hf
    refine j_callV X [0, 1, 2, 3, 4] 0 (H5 E h g _ _ _ g_q6) (cut_wB_wB_c ..) rfl rfl (ws' := (wB E h g q6.1)) (cut_wB_wB_w ..) (wB_0 ..) rfl k_544 k_546 k_9 k_77 k_547 (⟨rfl, rfl⟩) hdV_X1_readUnit ⟨by dsimp only [rmOf]; omega, by dsimp only [rmOf]; omega⟩ rfl (Nat.le_of_ble_eq_true rfl) rfl dX1_readProduct_53 ?_
    refine j_istore_n2 X dX1_readProduct_56 rfl (by decide) rfl ?_
    refine j_aload_n X dX1_readProduct_57 rfl rfl ?_
    refine j_iload X dX1_readProduct_58 rfl ?_
    refine j_ineg X dX1_readProduct_60 ?_
    obtain ⟨q7, g_q7, hf⟩ := ob_t hf
    refine j_callV X [0, 1, 2, 3, 4] 0 (c_X1_write E h g g_q7) (cut_wB_wB_c ..) rfl rfl (ws' := (wB E h g q7)) (cut_wB_wB_w ..) (wB_0 ..) rfl k_564 k_566 k_14 k_77 k_567 (⟨rfl, rfl⟩) hdV_X1_write ⟨by dsimp only [rmOf]; omega, by dsimp only [rmOf]; omega⟩ rfl (Nat.le_of_ble_eq_true rfl) rfl dX1_readProduct_61 ?_
    refine j_iinc3 (k := (1 : Int32)) X dX1_readProduct_64 (by decide) (by decide) rfl ?_
    refine j_goto (tgt := 8) X dX1_readProduct_67 (by decide) ?_
    refine j_keep [true, true, true, true, false] rfl ?_
    exact hK8 _ _ _ _ hf
  have lab8 : ∀ (n : Nat) (μ : Mem) (x1 : Int32) (x2 : Int32) (x3 : Int32), f_X1_readProduct_L8 rec n μ x1 x2 x3 = some r → J p l e (rmOf (F + 3) (L + 63)) s m args below meth c E A 5 Q (wB E h g μ) [some (.ref (h 0)), some (.int x1), some (.int x2), some (.int x3), none] 8 [] := by
    intro n
    induction n with
    | zero => intro μ x1 x2 x3 hf; cases (show none = some r from hf)
    | succ n ih =>
      intro μ x1 x2 x3 hf
      rw [f_X1_readProduct_L8] at hf
      refine j_iload_n X dX1_readProduct_8 rfl rfl ?_
      refine j_bipush (v := (60 : Int32)) X dX1_readProduct_9 (by decide) ?_
      refine j_icmp_ge (tgt := 70) X dX1_readProduct_11 (by decide) (fun c_11 => ?_) (fun c_11 => ?_)
      · replace hf := (if_pos c_11).symm.trans hf
        refine j_iload_n X dX1_readProduct_70 rfl rfl ?_
        obtain ⟨c2, hf⟩ := oi_t hf
        obtain rfl := Option.some.inj hf
        exact j_iret X hr hlk (nb01 c2) dX1_readProduct_71 hQ
      · replace hf := (if_neg c_11).symm.trans hf
        refine j_iload_n X dX1_readProduct_14 rfl rfl ?_
        refine j_if_eq (tgt := 70) X dX1_readProduct_15 (by decide) (fun c_15 => ?_) (fun c_15 => ?_)
        · replace hf := (if_pos c_15).symm.trans hf
          refine j_iload_n X dX1_readProduct_70 rfl rfl ?_
          obtain ⟨c3, hf⟩ := oi_t hf
          obtain rfl := Option.some.inj hf
          exact j_iret X hr hlk (nb01 c3) dX1_readProduct_71 hQ
        · replace hf := (if_neg c_15).symm.trans hf
          refine j_aload_n X dX1_readProduct_18 rfl rfl ?_
          refine j_bipush (v := (42 : Int32)) X dX1_readProduct_19 (by decide) ?_
          obtain ⟨q4, g_q4, hf⟩ := ob_t hf
          refine j_callV X [0, 1, 2, 3, 4] 0 (c_X1_sees E h g g_q4) (cut_wB_wB_c ..) rfl rfl (ws' := (wB E h g q4.1)) (cut_wB_wB_w ..) (wB_0 ..) rfl k_568 k_570 k_15 k_77 k_571 (⟨rfl, rfl⟩) hdV_X1_sees ⟨by dsimp only [rmOf]; omega, by dsimp only [rmOf]; omega⟩ rfl (Nat.le_of_ble_eq_true rfl) rfl dX1_readProduct_21 ?_
          refine j_if_ne (tgt := 45) X dX1_readProduct_24 (by decide) (fun c_24 => ?_) (fun c_24 => ?_)
          · replace hf := (if_neg c_24).symm.trans hf
            refine j_keep [true, true, false, true, false] rfl ?_
            exact lab45 _ ih _ _ _ hf
          · replace hf := (if_pos c_24).symm.trans hf
            refine j_aload_n X dX1_readProduct_27 rfl rfl ?_
            refine j_bipush (v := (47 : Int32)) X dX1_readProduct_28 (by decide) ?_
            obtain ⟨q8, g_q8, hf⟩ := ob_t hf
            refine j_callV X [0, 1, 2, 3, 4] 0 (c_X1_sees E h g g_q8) (cut_wB_wB_c ..) rfl rfl (ws' := (wB E h g q8.1)) (cut_wB_wB_w ..) (wB_0 ..) rfl k_568 k_570 k_15 k_77 k_571 (⟨rfl, rfl⟩) hdV_X1_sees ⟨by dsimp only [rmOf]; omega, by dsimp only [rmOf]; omega⟩ rfl (Nat.le_of_ble_eq_true rfl) rfl dX1_readProduct_30 ?_
            refine j_if_ne (tgt := 45) X dX1_readProduct_33 (by decide) (fun c_33 => ?_) (fun c_33 => ?_)
            · replace hf := (if_neg c_33).symm.trans hf
              refine j_keep [true, true, false, true, false] rfl ?_
              exact lab45 _ ih _ _ _ hf
            · replace hf := (if_pos c_33).symm.trans hf
              refine j_aload_n X dX1_readProduct_36 rfl rfl ?_
              refine j_bipush (v := (37 : Int32)) X dX1_readProduct_37 (by decide) ?_
              obtain ⟨q9, g_q9, hf⟩ := ob_t hf
              refine j_callV X [0, 1, 2, 3, 4] 0 (c_X1_sees E h g g_q9) (cut_wB_wB_c ..) rfl rfl (ws' := (wB E h g q9.1)) (cut_wB_wB_w ..) (wB_0 ..) rfl k_568 k_570 k_15 k_77 k_571 (⟨rfl, rfl⟩) hdV_X1_sees ⟨by dsimp only [rmOf]; omega, by dsimp only [rmOf]; omega⟩ rfl (Nat.le_of_ble_eq_true rfl) rfl dX1_readProduct_39 ?_
              refine j_if_eq (tgt := 70) X dX1_readProduct_42 (by decide) (fun c_42 => ?_) (fun c_42 => ?_)
              · replace hf := (if_pos c_42).symm.trans hf
                refine j_iload_n X dX1_readProduct_70 rfl rfl ?_
                obtain ⟨c10, hf⟩ := oi_t hf
                obtain rfl := Option.some.inj hf
                exact j_iret X hr hlk (nb01 c10) dX1_readProduct_71 hQ
              · replace hf := (if_neg c_42).symm.trans hf
                refine j_keep [true, true, false, true, false] rfl ?_
                exact lab45 _ ih _ _ _ hf
  rw [f_X1_readProduct_b] at hf
  refine j_aload_n X dX1_readProduct_0 rfl rfl ?_
  refine j_iload_n X dX1_readProduct_1 rfl rfl ?_
  obtain ⟨q1, g_q1, hf⟩ := ob_t hf
  refine j_callV X [0, 1, 2, 3, 4] 0 (H5 E h g _ _ _ g_q1) (cut_wB_wB_c ..) rfl rfl (ws' := (wB E h g q1.1)) (cut_wB_wB_w ..) (wB_0 ..) rfl k_544 k_546 k_9 k_77 k_547 (⟨rfl, rfl⟩) hdV_X1_readUnit ⟨by dsimp only [rmOf]; omega, by dsimp only [rmOf]; omega⟩ rfl (Nat.le_of_ble_eq_true rfl) rfl dX1_readProduct_2 ?_
  refine j_istore_n2 X dX1_readProduct_5 rfl (by decide) rfl ?_
  refine j_iconst (v := (0 : Int32)) X dX1_readProduct_6 (by decide) ?_
  refine j_istore_n3 X dX1_readProduct_7 rfl (by decide) rfl ?_
  refine j_keep [true, true, true, true, false] rfl ?_
  exact lab8 _ _ _ _ _ hf
def f_X1_readUnit_L42 (rec : RT_Lt) (μ : Mem) : Option (Mem × Int32) := (f_X1_takeSign μ).bind fun q3 => ((f_X1_write q3.1 (-q3.2)).bind fun q4 => (some (q4, (1 : Int32))))
def f_X1_readUnit_b (rec : RT_Lt) (μ : Mem) (x1 : Int32) : Option (Mem × Int32) := (f_X1_seesDigit μ).bind fun q1 => ((if q1.2 = 0 then (f_X1_sees q1.1 (q1.1 0 0)).bind fun q2 => ((if q2.2 = 0 then (f_X1_sees q2.1 (112 : Int32)).bind fun q5 => ((if q5.2 = 0 then (f_X1_sees q5.1 (109 : Int32)).bind fun q6 => ((if q6.2 = 0 then (if x1 < (5 : Int32) then (f_X1_sees q6.1 (33 : Int32)).bind fun q7 => ((if q7.2 = 0 then (rec.2.2.2.2.2.2 q7.1 x1).bind fun q8 => ((if q8.2 = 0 ∨ q8.2 = 1 then some (q8.1, q8.2) else none)) else bd (upA q7.1 0 (upd (q7.1 0) 8 ((q7.1 0 8) + (1 : Int32)))) fun μ10 => ((rec.2.2.2.2.2.1 μ10 (x1 + (1 : Int32))).bind fun q11 => ((f_X1_write q11.1 (-33 : Int32)).bind fun q12 => ((if q11.2 = 0 ∨ q11.2 = 1 then some (q12, q11.2) else none)))))) else some (q6.1, (0 : Int32))) else f_X1_readUnit_L42 rec q6.1)) else f_X1_readUnit_L42 rec q5.1)) else f_X1_readUnit_L42 rec q2.1)) else (f_X1_readNumber q1.1).bind fun q14 => (some (q14, (1 : Int32)))))
set_option maxHeartbeats 4000000 in
set_option maxRecDepth 20000 in
theorem c_X1_readUnit_b (rec : RT_Lt) (F L : Nat) (H0 : HC_X1_readEither rec.1 F L) (H1 : HC_X1_readBoth rec.2.1 F L) (H2 : HC_X1_readCompared rec.2.2.1 F L) (H3 : HC_X1_readSum rec.2.2.2.1 F L) (H4 : HC_X1_readProduct rec.2.2.2.2.1 F L) (H5 : HC_X1_readUnit rec.2.2.2.2.2.1 F L) (H6 : HC_X1_readBracket rec.2.2.2.2.2.2 F L) (E : Ev) (h : Nat → Nat) (g : Nat → Option Nat) {μ : Mem} {x1 : Int32} {r : (Mem × Int32)} (hf : f_X1_readUnit_b rec μ x1 = some r) : Ct E yX1_readUnit cX1_readUnit 3 (some .boolean) (rmOf (F + 3) (L + 63)) (wB E h g μ) (wB E h g r.1) [.ref (h 0), .int x1] (some (.int r.2)) := by
  refine ct_start RX1 1 (by decide) rfl (Nat.le_of_ble_eq_true rfl) ?_
  intro p l e s m args below meth c A Q X hr hlk hQ
  have lab42 : ∀ (μ : Mem), f_X1_readUnit_L42 rec μ = some r → J p l e (rmOf (F + 3) (L + 63)) s m args below meth c E A 3 Q (wB E h g μ) [some (.ref (h 0)), none, none] 42 [] := by
    intro  μ hf
    rw [f_X1_readUnit_L42] at hf
    refine j_aload_n X dX1_readUnit_42 rfl rfl ?_
    refine j_aload_n X dX1_readUnit_43 rfl rfl ?_
    obtain ⟨q3, g_q3, hf⟩ := ob_t hf
    refine j_callV X [0, 1, 2, 3, 4] 0 (c_X1_takeSign E h g g_q3) (cut_wB_wB_c ..) rfl rfl (ws' := (wB E h g q3.1)) (cut_wB_wB_w ..) (wB_0 ..) rfl k_560 k_562 k_13 k_77 k_563 (⟨rfl, rfl⟩) hdV_X1_takeSign ⟨by dsimp only [rmOf]; omega, by dsimp only [rmOf]; omega⟩ rfl (Nat.le_of_ble_eq_true rfl) rfl dX1_readUnit_44 ?_
    refine j_ineg X dX1_readUnit_47 ?_
    obtain ⟨q4, g_q4, hf⟩ := ob_t hf
    refine j_callV X [0, 1, 2, 3, 4] 0 (c_X1_write E h g g_q4) (cut_wB_wB_c ..) rfl rfl (ws' := (wB E h g q4)) (cut_wB_wB_w ..) (wB_0 ..) rfl k_564 k_566 k_14 k_77 k_567 (⟨rfl, rfl⟩) hdV_X1_write ⟨by dsimp only [rmOf]; omega, by dsimp only [rmOf]; omega⟩ rfl (Nat.le_of_ble_eq_true rfl) rfl dX1_readUnit_48 ?_
    refine j_iconst (v := (1 : Int32)) X dX1_readUnit_51 (by decide) ?_
    obtain rfl := Option.some.inj hf
    exact j_iret X hr hlk rfl dX1_readUnit_52 hQ
  rw [f_X1_readUnit_b] at hf
  refine j_aload_n X dX1_readUnit_0 rfl rfl ?_
  obtain ⟨q1, g_q1, hf⟩ := ob_t hf
  refine j_callV X [0, 1, 2, 3, 4] 0 (c_X1_seesDigit E h g g_q1) (cut_wB_wB_c ..) rfl rfl (ws' := (wB E h g q1.1)) (cut_wB_wB_w ..) (wB_0 ..) rfl k_548 k_550 k_10 k_77 k_551 (⟨rfl, rfl⟩) hdV_X1_seesDigit ⟨by dsimp only [rmOf]; omega, by dsimp only [rmOf]; omega⟩ rfl (Nat.le_of_ble_eq_true rfl) rfl dX1_readUnit_1 ?_
  refine j_if_eq (tgt := 13) X dX1_readUnit_4 (by decide) (fun c_4 => ?_) (fun c_4 => ?_)
  · replace hf := (if_pos c_4).symm.trans hf
    refine j_aload_n X dX1_readUnit_13 rfl rfl ?_
    refine j_aload_n X dX1_readUnit_14 rfl rfl ?_
    refine j_get (C := RX1) (T := TX1) (N := 9) X iX1 0 (wB_0 ..) rfl 0 (by decide) k_154 rfl rfl dX1_readUnit_15 ?_
    obtain ⟨q2, g_q2, hf⟩ := ob_t hf
    refine j_callV X [0, 1, 2, 3, 4] 0 (c_X1_sees E h g g_q2) (cut_wB_wB_c ..) rfl rfl (ws' := (wB E h g q2.1)) (cut_wB_wB_w ..) (wB_0 ..) rfl k_568 k_570 k_15 k_77 k_571 (⟨rfl, rfl⟩) hdV_X1_sees ⟨by dsimp only [rmOf]; omega, by dsimp only [rmOf]; omega⟩ rfl (Nat.le_of_ble_eq_true rfl) rfl dX1_readUnit_18 ?_
    refine j_if_ne (tgt := 42) X dX1_readUnit_21 (by decide) (fun c_21 => ?_) (fun c_21 => ?_)
    · replace hf := (if_neg c_21).symm.trans hf
      refine j_keep [true, false, false] rfl ?_
      exact lab42 _ hf
    · replace hf := (if_pos c_21).symm.trans hf
      refine j_aload_n X dX1_readUnit_24 rfl rfl ?_
      refine j_bipush (v := (112 : Int32)) X dX1_readUnit_25 (by decide) ?_
      obtain ⟨q5, g_q5, hf⟩ := ob_t hf
      refine j_callV X [0, 1, 2, 3, 4] 0 (c_X1_sees E h g g_q5) (cut_wB_wB_c ..) rfl rfl (ws' := (wB E h g q5.1)) (cut_wB_wB_w ..) (wB_0 ..) rfl k_568 k_570 k_15 k_77 k_571 (⟨rfl, rfl⟩) hdV_X1_sees ⟨by dsimp only [rmOf]; omega, by dsimp only [rmOf]; omega⟩ rfl (Nat.le_of_ble_eq_true rfl) rfl dX1_readUnit_27 ?_
      refine j_if_ne (tgt := 42) X dX1_readUnit_30 (by decide) (fun c_30 => ?_) (fun c_30 => ?_)
      · replace hf := (if_neg c_30).symm.trans hf
        refine j_keep [true, false, false] rfl ?_
        exact lab42 _ hf
      · replace hf := (if_pos c_30).symm.trans hf
        refine j_aload_n X dX1_readUnit_33 rfl rfl ?_
        refine j_bipush (v := (109 : Int32)) X dX1_readUnit_34 (by decide) ?_
        obtain ⟨q6, g_q6, hf⟩ := ob_t hf
        refine j_callV X [0, 1, 2, 3, 4] 0 (c_X1_sees E h g g_q6) (cut_wB_wB_c ..) rfl rfl (ws' := (wB E h g q6.1)) (cut_wB_wB_w ..) (wB_0 ..) rfl k_568 k_570 k_15 k_77 k_571 (⟨rfl, rfl⟩) hdV_X1_sees ⟨by dsimp only [rmOf]; omega, by dsimp only [rmOf]; omega⟩ rfl (Nat.le_of_ble_eq_true rfl) rfl dX1_readUnit_36 ?_
        refine j_if_eq (tgt := 53) X dX1_readUnit_39 (by decide) (fun c_39 => ?_) (fun c_39 => ?_)
        · replace hf := (if_pos c_39).symm.trans hf
          refine j_iload_n X dX1_readUnit_53 rfl rfl ?_
          refine j_iconst (v := (5 : Int32)) X dX1_readUnit_54 (by decide) ?_
          refine j_icmp_lt (tgt := 60) X dX1_readUnit_55 (by decide) (fun c_55 => ?_) (fun c_55 => ?_)
          · replace hf := (if_pos c_55).symm.trans hf
            refine j_aload_n X dX1_readUnit_60 rfl rfl ?_
            refine j_bipush (v := (33 : Int32)) X dX1_readUnit_61 (by decide) ?_
            obtain ⟨q7, g_q7, hf⟩ := ob_t hf
            refine j_callV X [0, 1, 2, 3, 4] 0 (c_X1_sees E h g g_q7) (cut_wB_wB_c ..) rfl rfl (ws' := (wB E h g q7.1)) (cut_wB_wB_w ..) (wB_0 ..) rfl k_568 k_570 k_15 k_77 k_571 (⟨rfl, rfl⟩) hdV_X1_sees ⟨by dsimp only [rmOf]; omega, by dsimp only [rmOf]; omega⟩ rfl (Nat.le_of_ble_eq_true rfl) rfl dX1_readUnit_63 ?_
            refine j_if_eq (tgt := 95) X dX1_readUnit_66 (by decide) (fun c_66 => ?_) (fun c_66 => ?_)
            · replace hf := (if_pos c_66).symm.trans hf
              refine j_aload_n X dX1_readUnit_95 rfl rfl ?_
              refine j_iload_n X dX1_readUnit_96 rfl rfl ?_
              obtain ⟨q8, g_q8, hf⟩ := ob_t hf
              refine j_callV X [0, 1, 2, 3, 4] 0 (H6 E h g _ _ _ g_q8) (cut_wB_wB_c ..) rfl rfl (ws' := (wB E h g q8.1)) (cut_wB_wB_w ..) (wB_0 ..) rfl k_572 k_574 k_16 k_77 k_575 (⟨rfl, rfl⟩) hdV_X1_readBracket ⟨by dsimp only [rmOf]; omega, by dsimp only [rmOf]; omega⟩ rfl (Nat.le_of_ble_eq_true rfl) rfl dX1_readUnit_97 ?_
              obtain ⟨c9, hf⟩ := oi_t hf
              obtain rfl := Option.some.inj hf
              exact j_iret X hr hlk (nb01 c9) dX1_readUnit_100 hQ
            · replace hf := (if_neg c_66).symm.trans hf
              refine j_aload_n X dX1_readUnit_69 rfl rfl ?_
              refine j_dup X dX1_readUnit_70 rfl ?_
              refine j_get (C := RX1) (T := TX1) (N := 9) X iX1 0 (wB_0 ..) rfl 8 (by decide) k_162 rfl rfl dX1_readUnit_71 ?_
              refine j_iconst (v := (1 : Int32)) X dX1_readUnit_74 (by decide) ?_
              refine j_iadd X dX1_readUnit_75 ?_
              obtain ⟨μ10, e_μ10, hf⟩ := bd_e hf
              refine j_put (C := RX1) (T := TX1) (N := 9) X iX1 0 (wB_0 ..) rfl 8 (by decide) k_162 rfl tyX1 tyX1_ok nmX1 rfl (ty := .int) (by decide +kernel) rfl rfl (Nat.le_of_ble_eq_true rfl) dX1_readUnit_76 (ws' := (wB E h g μ10)) (by rw [e_μ10]; exact wB_f0_8 ..) ?_
              refine j_aload_n X dX1_readUnit_79 rfl rfl ?_
              refine j_iload_n X dX1_readUnit_80 rfl rfl ?_
              refine j_iconst (v := (1 : Int32)) X dX1_readUnit_81 (by decide) ?_
              refine j_iadd X dX1_readUnit_82 ?_
              obtain ⟨q11, g_q11, hf⟩ := ob_t hf
              refine j_callV X [0, 1, 2, 3, 4] 0 (H5 E h g _ _ _ g_q11) (cut_wB_wB_c ..) rfl rfl (ws' := (wB E h g q11.1)) (cut_wB_wB_w ..) (wB_0 ..) rfl k_544 k_546 k_9 k_77 k_547 (⟨rfl, rfl⟩) hdV_X1_readUnit ⟨by dsimp only [rmOf]; omega, by dsimp only [rmOf]; omega⟩ rfl (Nat.le_of_ble_eq_true rfl) rfl dX1_readUnit_83 ?_
              refine j_istore_n2 X dX1_readUnit_86 rfl (by decide) rfl ?_
              refine j_aload_n X dX1_readUnit_87 rfl rfl ?_
              refine j_bipush (v := (-33 : Int32)) X dX1_readUnit_88 (by decide) ?_
              obtain ⟨q12, g_q12, hf⟩ := ob_t hf
              refine j_callV X [0, 1, 2, 3, 4] 0 (c_X1_write E h g g_q12) (cut_wB_wB_c ..) rfl rfl (ws' := (wB E h g q12)) (cut_wB_wB_w ..) (wB_0 ..) rfl k_564 k_566 k_14 k_77 k_567 (⟨rfl, rfl⟩) hdV_X1_write ⟨by dsimp only [rmOf]; omega, by dsimp only [rmOf]; omega⟩ rfl (Nat.le_of_ble_eq_true rfl) rfl dX1_readUnit_90 ?_
              refine j_iload_n X dX1_readUnit_93 rfl rfl ?_
              obtain ⟨c13, hf⟩ := oi_t hf
              obtain rfl := Option.some.inj hf
              exact j_iret X hr hlk (nb01 c13) dX1_readUnit_94 hQ
          · replace hf := (if_neg c_55).symm.trans hf
            refine j_iconst (v := (0 : Int32)) X dX1_readUnit_58 (by decide) ?_
            obtain rfl := Option.some.inj hf
            exact j_iret X hr hlk rfl dX1_readUnit_59 hQ
        · replace hf := (if_neg c_39).symm.trans hf
          refine j_keep [true, false, false] rfl ?_
          exact lab42 _ hf
  · replace hf := (if_neg c_4).symm.trans hf
    refine j_aload_n X dX1_readUnit_7 rfl rfl ?_
    obtain ⟨q14, g_q14, hf⟩ := ob_t hf
    refine j_callV X [0, 1, 2, 3, 4] 0 (c_X1_readNumber E h g g_q14) (cut_wB_wB_c ..) rfl rfl (ws' := (wB E h g q14)) (cut_wB_wB_w ..) (wB_0 ..) rfl k_556 k_558 k_12 k_77 k_559 (⟨rfl, rfl⟩) hdV_X1_readNumber ⟨by dsimp only [rmOf]; omega, by dsimp only [rmOf]; omega⟩ rfl (Nat.le_of_ble_eq_true rfl) rfl dX1_readUnit_8 ?_
    refine j_iconst (v := (1 : Int32)) X dX1_readUnit_11 (by decide) ?_
    obtain rfl := Option.some.inj hf
    exact j_iret X hr hlk rfl dX1_readUnit_12 hQ
def f_X1_readBracket_b (rec : RT_Lt) (μ : Mem) (x1 : Int32) : Option (Mem × Int32) := (f_X1_sees μ (40 : Int32)).bind fun q1 => ((if q1.2 = 0 then some (q1.1, (0 : Int32)) else bd (upA q1.1 0 (upd (q1.1 0) 8 ((q1.1 0 8) + (1 : Int32)))) fun μ2 => ((rec.1 μ2 (x1 + (1 : Int32))).bind fun q3 => ((if q3.2 = 0 then some (q3.1, (0 : Int32)) else (f_X1_sees q3.1 (41 : Int32)).bind fun q4 => ((if q4.2 = 0 then some (q4.1, (0 : Int32)) else bd (upA q4.1 0 (upd (q4.1 0) 8 ((q4.1 0 8) + (1 : Int32)))) fun μ5 => (some (μ5, (1 : Int32))))))))))
set_option maxHeartbeats 4000000 in
set_option maxRecDepth 20000 in
theorem c_X1_readBracket_b (rec : RT_Lt) (F L : Nat) (H0 : HC_X1_readEither rec.1 F L) (H1 : HC_X1_readBoth rec.2.1 F L) (H2 : HC_X1_readCompared rec.2.2.1 F L) (H3 : HC_X1_readSum rec.2.2.2.1 F L) (H4 : HC_X1_readProduct rec.2.2.2.2.1 F L) (H5 : HC_X1_readUnit rec.2.2.2.2.2.1 F L) (H6 : HC_X1_readBracket rec.2.2.2.2.2.2 F L) (E : Ev) (h : Nat → Nat) (g : Nat → Option Nat) {μ : Mem} {x1 : Int32} {r : (Mem × Int32)} (hf : f_X1_readBracket_b rec μ x1 = some r) : Ct E yX1_readBracket cX1_readBracket 2 (some .boolean) (rmOf (F + 3) (L + 63)) (wB E h g μ) (wB E h g r.1) [.ref (h 0), .int x1] (some (.int r.2)) := by
  refine ct_start RX1 0 (by decide) rfl (Nat.le_of_ble_eq_true rfl) ?_
  intro p l e s m args below meth c A Q X hr hlk hQ
  rw [f_X1_readBracket_b] at hf
  refine j_aload_n X dX1_readBracket_0 rfl rfl ?_
  refine j_bipush (v := (40 : Int32)) X dX1_readBracket_1 (by decide) ?_
  obtain ⟨q1, g_q1, hf⟩ := ob_t hf
  refine j_callV X [0, 1, 2, 3, 4] 0 (c_X1_sees E h g g_q1) (cut_wB_wB_c ..) rfl rfl (ws' := (wB E h g q1.1)) (cut_wB_wB_w ..) (wB_0 ..) rfl k_568 k_570 k_15 k_77 k_571 (⟨rfl, rfl⟩) hdV_X1_sees ⟨by dsimp only [rmOf]; omega, by dsimp only [rmOf]; omega⟩ rfl (Nat.le_of_ble_eq_true rfl) rfl dX1_readBracket_3 ?_
  refine j_if_ne (tgt := 11) X dX1_readBracket_6 (by decide) (fun c_6 => ?_) (fun c_6 => ?_)
  · replace hf := (if_neg c_6).symm.trans hf
    refine j_aload_n X dX1_readBracket_11 rfl rfl ?_
    refine j_dup X dX1_readBracket_12 rfl ?_
    refine j_get (C := RX1) (T := TX1) (N := 9) X iX1 0 (wB_0 ..) rfl 8 (by decide) k_162 rfl rfl dX1_readBracket_13 ?_
    refine j_iconst (v := (1 : Int32)) X dX1_readBracket_16 (by decide) ?_
    refine j_iadd X dX1_readBracket_17 ?_
    obtain ⟨μ2, e_μ2, hf⟩ := bd_e hf
    refine j_put (C := RX1) (T := TX1) (N := 9) X iX1 0 (wB_0 ..) rfl 8 (by decide) k_162 rfl tyX1 tyX1_ok nmX1 rfl (ty := .int) (by decide +kernel) rfl rfl (Nat.le_of_ble_eq_true rfl) dX1_readBracket_18 (ws' := (wB E h g μ2)) (by rw [e_μ2]; exact wB_f0_8 ..) ?_
    refine j_aload_n X dX1_readBracket_21 rfl rfl ?_
    refine j_iload_n X dX1_readBracket_22 rfl rfl ?_
    refine j_iconst (v := (1 : Int32)) X dX1_readBracket_23 (by decide) ?_
    refine j_iadd X dX1_readBracket_24 ?_
    obtain ⟨q3, g_q3, hf⟩ := ob_t hf
    refine j_callV X [0, 1, 2, 3, 4] 0 (H0 E h g _ _ _ g_q3) (cut_wB_wB_c ..) rfl rfl (ws' := (wB E h g q3.1)) (cut_wB_wB_w ..) (wB_0 ..) rfl k_524 k_526 k_4 k_77 k_527 (⟨rfl, rfl⟩) hdV_X1_readEither ⟨by dsimp only [rmOf]; omega, by dsimp only [rmOf]; omega⟩ rfl (Nat.le_of_ble_eq_true rfl) rfl dX1_readBracket_25 ?_
    refine j_if_eq (tgt := 40) X dX1_readBracket_28 (by decide) (fun c_28 => ?_) (fun c_28 => ?_)
    · replace hf := (if_pos c_28).symm.trans hf
      refine j_iconst (v := (0 : Int32)) X dX1_readBracket_40 (by decide) ?_
      obtain rfl := Option.some.inj hf
      exact j_iret X hr hlk rfl dX1_readBracket_41 hQ
    · replace hf := (if_neg c_28).symm.trans hf
      refine j_aload_n X dX1_readBracket_31 rfl rfl ?_
      refine j_bipush (v := (41 : Int32)) X dX1_readBracket_32 (by decide) ?_
      obtain ⟨q4, g_q4, hf⟩ := ob_t hf
      refine j_callV X [0, 1, 2, 3, 4] 0 (c_X1_sees E h g g_q4) (cut_wB_wB_c ..) rfl rfl (ws' := (wB E h g q4.1)) (cut_wB_wB_w ..) (wB_0 ..) rfl k_568 k_570 k_15 k_77 k_571 (⟨rfl, rfl⟩) hdV_X1_sees ⟨by dsimp only [rmOf]; omega, by dsimp only [rmOf]; omega⟩ rfl (Nat.le_of_ble_eq_true rfl) rfl dX1_readBracket_34 ?_
      refine j_if_ne (tgt := 42) X dX1_readBracket_37 (by decide) (fun c_37 => ?_) (fun c_37 => ?_)
      · replace hf := (if_neg c_37).symm.trans hf
        refine j_aload_n X dX1_readBracket_42 rfl rfl ?_
        refine j_dup X dX1_readBracket_43 rfl ?_
        refine j_get (C := RX1) (T := TX1) (N := 9) X iX1 0 (wB_0 ..) rfl 8 (by decide) k_162 rfl rfl dX1_readBracket_44 ?_
        refine j_iconst (v := (1 : Int32)) X dX1_readBracket_47 (by decide) ?_
        refine j_iadd X dX1_readBracket_48 ?_
        obtain ⟨μ5, e_μ5, hf⟩ := bd_e hf
        refine j_put (C := RX1) (T := TX1) (N := 9) X iX1 0 (wB_0 ..) rfl 8 (by decide) k_162 rfl tyX1 tyX1_ok nmX1 rfl (ty := .int) (by decide +kernel) rfl rfl (Nat.le_of_ble_eq_true rfl) dX1_readBracket_49 (ws' := (wB E h g μ5)) (by rw [e_μ5]; exact wB_f0_8 ..) ?_
        refine j_iconst (v := (1 : Int32)) X dX1_readBracket_52 (by decide) ?_
        obtain rfl := Option.some.inj hf
        exact j_iret X hr hlk rfl dX1_readBracket_53 hQ
      · replace hf := (if_pos c_37).symm.trans hf
        refine j_iconst (v := (0 : Int32)) X dX1_readBracket_40 (by decide) ?_
        obtain rfl := Option.some.inj hf
        exact j_iret X hr hlk rfl dX1_readBracket_41 hQ
  · replace hf := (if_pos c_6).symm.trans hf
    refine j_iconst (v := (0 : Int32)) X dX1_readBracket_9 (by decide) ?_
    obtain rfl := Option.some.inj hf
    exact j_iret X hr hlk rfl dX1_readBracket_10 hQ
def rec_Lt : Nat → RT_Lt
  | 0 => (fun _ _ => none, fun _ _ => none, fun _ _ => none, fun _ _ => none, fun _ _ => none, fun _ _ => none, fun _ _ => none)
  | d + 1 => (f_X1_readEither_b (rec_Lt d), f_X1_readBoth_b (rec_Lt d), f_X1_readCompared_b (rec_Lt d), f_X1_readSum_b (rec_Lt d), f_X1_readProduct_b (rec_Lt d), f_X1_readUnit_b (rec_Lt d), f_X1_readBracket_b (rec_Lt d))
theorem rk_Lt : ∀ d : Nat, HC_X1_readEither (rec_Lt d).1 (3 * d) (63 * d) ∧ HC_X1_readBoth (rec_Lt d).2.1 (3 * d) (63 * d) ∧ HC_X1_readCompared (rec_Lt d).2.2.1 (3 * d) (63 * d) ∧ HC_X1_readSum (rec_Lt d).2.2.2.1 (3 * d) (63 * d) ∧ HC_X1_readProduct (rec_Lt d).2.2.2.2.1 (3 * d) (63 * d) ∧ HC_X1_readUnit (rec_Lt d).2.2.2.2.2.1 (3 * d) (63 * d) ∧ HC_X1_readBracket (rec_Lt d).2.2.2.2.2.2 (3 * d) (63 * d) := by
  intro d
  induction d with
  | zero => exact ⟨(fun E h g μ x1 r hf => by cases (show none = some r from hf)), (fun E h g μ x1 r hf => by cases (show none = some r from hf)), (fun E h g μ x1 r hf => by cases (show none = some r from hf)), (fun E h g μ x1 r hf => by cases (show none = some r from hf)), (fun E h g μ x1 r hf => by cases (show none = some r from hf)), (fun E h g μ x1 r hf => by cases (show none = some r from hf)), (fun E h g μ x1 r hf => by cases (show none = some r from hf))⟩
  | succ d ih =>
    obtain ⟨H0, H1, H2, H3, H4, H5, H6⟩ := ih
    exact ⟨fun E h g μ x1 r hf => c_X1_readEither_b (rec_Lt d) (3 * d) (63 * d) H0 H1 H2 H3 H4 H5 H6 E h g hf, fun E h g μ x1 r hf => c_X1_readBoth_b (rec_Lt d) (3 * d) (63 * d) H0 H1 H2 H3 H4 H5 H6 E h g hf, fun E h g μ x1 r hf => c_X1_readCompared_b (rec_Lt d) (3 * d) (63 * d) H0 H1 H2 H3 H4 H5 H6 E h g hf, fun E h g μ x1 r hf => c_X1_readSum_b (rec_Lt d) (3 * d) (63 * d) H0 H1 H2 H3 H4 H5 H6 E h g hf, fun E h g μ x1 r hf => c_X1_readProduct_b (rec_Lt d) (3 * d) (63 * d) H0 H1 H2 H3 H4 H5 H6 E h g hf, fun E h g μ x1 r hf => c_X1_readUnit_b (rec_Lt d) (3 * d) (63 * d) H0 H1 H2 H3 H4 H5 H6 E h g hf, fun E h g μ x1 r hf => c_X1_readBracket_b (rec_Lt d) (3 * d) (63 * d) H0 H1 H2 H3 H4 H5 H6 E h g hf⟩
def f_X1_readEither (μ : Mem) (x1 : Int32) : Option (Mem × Int32) := (rec_Lt 64).1 μ x1
theorem c_X1_readEither (E : Ev) (h : Nat → Nat) (g : Nat → Option Nat) {μ : Mem} {x1 : Int32} {r : (Mem × Int32)} (hf : f_X1_readEither μ x1 = some r) : Ct E yX1_readEither cX1_readEither 4 (some .boolean) (rmOf 192 4032) (wB E h g μ) (wB E h g r.1) [.ref (h 0), .int x1] (some (.int r.2)) := (rk_Lt 64).1 E h g _ _ _ hf
def f_X1_readBoth (μ : Mem) (x1 : Int32) : Option (Mem × Int32) := (rec_Lt 64).2.1 μ x1
theorem c_X1_readBoth (E : Ev) (h : Nat → Nat) (g : Nat → Option Nat) {μ : Mem} {x1 : Int32} {r : (Mem × Int32)} (hf : f_X1_readBoth μ x1 = some r) : Ct E yX1_readBoth cX1_readBoth 4 (some .boolean) (rmOf 192 4032) (wB E h g μ) (wB E h g r.1) [.ref (h 0), .int x1] (some (.int r.2)) := (rk_Lt 64).2.1 E h g _ _ _ hf
def f_X1_readCompared (μ : Mem) (x1 : Int32) : Option (Mem × Int32) := (rec_Lt 64).2.2.1 μ x1
theorem c_X1_readCompared (E : Ev) (h : Nat → Nat) (g : Nat → Option Nat) {μ : Mem} {x1 : Int32} {r : (Mem × Int32)} (hf : f_X1_readCompared μ x1 = some r) : Ct E yX1_readCompared cX1_readCompared 4 (some .boolean) (rmOf 192 4032) (wB E h g μ) (wB E h g r.1) [.ref (h 0), .int x1] (some (.int r.2)) := (rk_Lt 64).2.2.1 E h g _ _ _ hf
def f_X1_readSum (μ : Mem) (x1 : Int32) : Option (Mem × Int32) := (rec_Lt 64).2.2.2.1 μ x1
theorem c_X1_readSum (E : Ev) (h : Nat → Nat) (g : Nat → Option Nat) {μ : Mem} {x1 : Int32} {r : (Mem × Int32)} (hf : f_X1_readSum μ x1 = some r) : Ct E yX1_readSum cX1_readSum 5 (some .boolean) (rmOf 192 4032) (wB E h g μ) (wB E h g r.1) [.ref (h 0), .int x1] (some (.int r.2)) := (rk_Lt 64).2.2.2.1 E h g _ _ _ hf
def f_X1_readProduct (μ : Mem) (x1 : Int32) : Option (Mem × Int32) := (rec_Lt 64).2.2.2.2.1 μ x1
theorem c_X1_readProduct (E : Ev) (h : Nat → Nat) (g : Nat → Option Nat) {μ : Mem} {x1 : Int32} {r : (Mem × Int32)} (hf : f_X1_readProduct μ x1 = some r) : Ct E yX1_readProduct cX1_readProduct 5 (some .boolean) (rmOf 192 4032) (wB E h g μ) (wB E h g r.1) [.ref (h 0), .int x1] (some (.int r.2)) := (rk_Lt 64).2.2.2.2.1 E h g _ _ _ hf
def f_X1_readUnit (μ : Mem) (x1 : Int32) : Option (Mem × Int32) := (rec_Lt 64).2.2.2.2.2.1 μ x1
theorem c_X1_readUnit (E : Ev) (h : Nat → Nat) (g : Nat → Option Nat) {μ : Mem} {x1 : Int32} {r : (Mem × Int32)} (hf : f_X1_readUnit μ x1 = some r) : Ct E yX1_readUnit cX1_readUnit 3 (some .boolean) (rmOf 192 4032) (wB E h g μ) (wB E h g r.1) [.ref (h 0), .int x1] (some (.int r.2)) := (rk_Lt 64).2.2.2.2.2.1 E h g _ _ _ hf
def f_X1_readBracket (μ : Mem) (x1 : Int32) : Option (Mem × Int32) := (rec_Lt 64).2.2.2.2.2.2 μ x1
theorem c_X1_readBracket (E : Ev) (h : Nat → Nat) (g : Nat → Option Nat) {μ : Mem} {x1 : Int32} {r : (Mem × Int32)} (hf : f_X1_readBracket μ x1 = some r) : Ct E yX1_readBracket cX1_readBracket 2 (some .boolean) (rmOf 192 4032) (wB E h g μ) (wB E h g r.1) [.ref (h 0), .int x1] (some (.int r.2)) := (rk_Lt 64).2.2.2.2.2.2 E h g _ _ _ hf
def f_X4_kindOf (μ : Mem) (x1 : Int32) : Option (Mem × Nat) := (if inb x1 9 = true then (if (μ 1 x1.toNatClampNeg) = (0 : Int32) then some (μ, 15) else (if (μ 1 x1.toNatClampNeg) = (1 : Int32) then some (μ, 16) else (if (μ 1 x1.toNatClampNeg) = (2 : Int32) then some (μ, 17) else (if (μ 1 x1.toNatClampNeg) = (3 : Int32) then some (μ, 18) else (if (μ 1 x1.toNatClampNeg) = (4 : Int32) then some (μ, 19) else (if (μ 1 x1.toNatClampNeg) = (5 : Int32) then some (μ, 20) else (if (μ 1 x1.toNatClampNeg) = (6 : Int32) then some (μ, 21) else none))))))) else none)
set_option maxHeartbeats 4000000 in
set_option maxRecDepth 20000 in
theorem c_X4_kindOf (E : Ev) (h : Nat → Nat) (g : Nat → Option Nat) {μ : Mem} {x1 : Int32} {r : (Mem × Nat)} (hf : f_X4_kindOf μ x1 = some r) : Ct E yX4_kindOf cX4_kindOf 2 (some (.object "StandStill$Stander")) (rmOf 0 0) (wR E h g μ) (wR E h g r.1) [.ref (h 0), .int x1] (some (.ref (h r.2))) := by
  refine ct_start RX4 0 (by decide) rfl (Nat.le_of_ble_eq_true rfl) ?_
  intro p l e s m args below meth c A Q X hr hlk hQ
  rw [f_X4_kindOf] at hf
  refine j_aload_n X dX4_kindOf_0 rfl rfl ?_
  refine j_get (C := RX4) (T := TX4) (N := 10) X iX4 0 (wR_0 ..) rfl 9 (by decide) k_212 rfl rfl dX4_kindOf_1 ?_
  refine j_aload_n X dX4_kindOf_4 rfl rfl ?_
  refine j_get (C := RX4) (T := TX4) (N := 10) X iX4 0 (wR_0 ..) rfl 0 (by decide) k_189 rfl rfl dX4_kindOf_5 ?_
  refine j_iload_n X dX4_kindOf_8 rfl rfl ?_
  obtain ⟨c1, hf⟩ := oi_in hf
  refine j_iald X 1 (wR_1 ..) c1 dX4_kindOf_9 ?_
  by_cases n_10_0 : (μ 1 x1.toNatClampNeg) = (0 : Int32)
  · replace hf := (if_pos n_10_0).symm.trans hf
    refine j_aald2 X 14 (wR_14 ..) (b := h 15) (by rw [n_10_0]; unfold vp_in; decide) (by rw [n_10_0]; rfl) dX4_kindOf_10 ?_
    obtain rfl := Option.some.inj hf
    exact j_aret X hr hlk dX4_kindOf_11 hQ
  · replace hf := (if_neg n_10_0).symm.trans hf
    by_cases n_10_1 : (μ 1 x1.toNatClampNeg) = (1 : Int32)
    · replace hf := (if_pos n_10_1).symm.trans hf
      refine j_aald2 X 14 (wR_14 ..) (b := h 16) (by rw [n_10_1]; unfold vp_in; decide) (by rw [n_10_1]; rfl) dX4_kindOf_10 ?_
      obtain rfl := Option.some.inj hf
      exact j_aret X hr hlk dX4_kindOf_11 hQ
    · replace hf := (if_neg n_10_1).symm.trans hf
      by_cases n_10_2 : (μ 1 x1.toNatClampNeg) = (2 : Int32)
      · replace hf := (if_pos n_10_2).symm.trans hf
        refine j_aald2 X 14 (wR_14 ..) (b := h 17) (by rw [n_10_2]; unfold vp_in; decide) (by rw [n_10_2]; rfl) dX4_kindOf_10 ?_
        obtain rfl := Option.some.inj hf
        exact j_aret X hr hlk dX4_kindOf_11 hQ
      · replace hf := (if_neg n_10_2).symm.trans hf
        by_cases n_10_3 : (μ 1 x1.toNatClampNeg) = (3 : Int32)
        · replace hf := (if_pos n_10_3).symm.trans hf
          refine j_aald2 X 14 (wR_14 ..) (b := h 18) (by rw [n_10_3]; unfold vp_in; decide) (by rw [n_10_3]; rfl) dX4_kindOf_10 ?_
          obtain rfl := Option.some.inj hf
          exact j_aret X hr hlk dX4_kindOf_11 hQ
        · replace hf := (if_neg n_10_3).symm.trans hf
          by_cases n_10_4 : (μ 1 x1.toNatClampNeg) = (4 : Int32)
          · replace hf := (if_pos n_10_4).symm.trans hf
            refine j_aald2 X 14 (wR_14 ..) (b := h 19) (by rw [n_10_4]; unfold vp_in; decide) (by rw [n_10_4]; rfl) dX4_kindOf_10 ?_
            obtain rfl := Option.some.inj hf
            exact j_aret X hr hlk dX4_kindOf_11 hQ
          · replace hf := (if_neg n_10_4).symm.trans hf
            by_cases n_10_5 : (μ 1 x1.toNatClampNeg) = (5 : Int32)
            · replace hf := (if_pos n_10_5).symm.trans hf
              refine j_aald2 X 14 (wR_14 ..) (b := h 20) (by rw [n_10_5]; unfold vp_in; decide) (by rw [n_10_5]; rfl) dX4_kindOf_10 ?_
              obtain rfl := Option.some.inj hf
              exact j_aret X hr hlk dX4_kindOf_11 hQ
            · replace hf := (if_neg n_10_5).symm.trans hf
              by_cases n_10_6 : (μ 1 x1.toNatClampNeg) = (6 : Int32)
              · replace hf := (if_pos n_10_6).symm.trans hf
                refine j_aald2 X 14 (wR_14 ..) (b := h 21) (by rw [n_10_6]; unfold vp_in; decide) (by rw [n_10_6]; rfl) dX4_kindOf_10 ?_
                obtain rfl := Option.some.inj hf
                exact j_aret X hr hlk dX4_kindOf_11 hQ
              · replace hf := (if_neg n_10_6).symm.trans hf
                cases hf
def f_X4_stands (μ : Mem) (x1 : Int32) : Option (Mem × Int32) := (if inb x1 9 = true then (if 0 ≤ (μ 5 x1.toNatClampNeg) then some (μ, (0 : Int32)) else some (μ, (1 : Int32))) else none)
set_option maxHeartbeats 4000000 in
set_option maxRecDepth 20000 in
theorem c_X4_stands (E : Ev) (h : Nat → Nat) (g : Nat → Option Nat) {μ : Mem} {x1 : Int32} {r : (Mem × Int32)} (hf : f_X4_stands μ x1 = some r) : Ct E yX4_stands cX4_stands 2 (some .boolean) (rmOf 0 0) (wR E h g μ) (wR E h g r.1) [.ref (h 0), .int x1] (some (.int r.2)) := by
  refine ct_start RX4 0 (by decide) rfl (Nat.le_of_ble_eq_true rfl) ?_
  intro p l e s m args below meth c A Q X hr hlk hQ
  rw [f_X4_stands] at hf
  refine j_aload_n X dX4_stands_0 rfl rfl ?_
  refine j_get (C := RX4) (T := TX4) (N := 10) X iX4 0 (wR_0 ..) rfl 4 (by decide) k_201 rfl rfl dX4_stands_1 ?_
  refine j_iload_n X dX4_stands_4 rfl rfl ?_
  obtain ⟨c1, hf⟩ := oi_in hf
  refine j_iald X 5 (wR_5 ..) c1 dX4_stands_5 ?_
  refine j_if_ge (tgt := 13) X dX4_stands_6 (by decide) (fun c_6 => ?_) (fun c_6 => ?_)
  · replace hf := (if_pos c_6).symm.trans hf
    refine j_iconst (v := (0 : Int32)) X dX4_stands_13 (by decide) ?_
    obtain rfl := Option.some.inj hf
    exact j_iret X hr hlk rfl dX4_stands_14 hQ
  · replace hf := (if_neg c_6).symm.trans hf
    refine j_iconst (v := (1 : Int32)) X dX4_stands_9 (by decide) ?_
    refine j_goto (tgt := 14) X dX4_stands_10 (by decide) ?_
    obtain rfl := Option.some.inj hf
    exact j_iret X hr hlk rfl dX4_stands_14 hQ
def f_X4_is (μ : Mem) (x1 : Int32) (x2 : Int32) : Option (Mem × Int32) := (if x2 = (2 : Int32) then (if inb x1 9 = true then some (μ, (μ 3 x1.toNatClampNeg)) else none) else (if x2 = (3 : Int32) then (if inb x1 9 = true then some (μ, (μ 4 x1.toNatClampNeg)) else none) else (if inb x1 9 = true then some (μ, (μ 5 x1.toNatClampNeg)) else none)))
set_option maxHeartbeats 4000000 in
set_option maxRecDepth 20000 in
theorem c_X4_is (E : Ev) (h : Nat → Nat) (g : Nat → Option Nat) {μ : Mem} {x1 : Int32} {x2 : Int32} {r : (Mem × Int32)} (hf : f_X4_is μ x1 x2 = some r) : Ct E yX4_is cX4_is 3 (some .int) (rmOf 0 0) (wR E h g μ) (wR E h g r.1) [.ref (h 0), .int x1, .int x2] (some (.int r.2)) := by
  refine ct_start RX4 0 (by decide) rfl (Nat.le_of_ble_eq_true rfl) ?_
  intro p l e s m args below meth c A Q X hr hlk hQ
  rw [f_X4_is] at hf
  refine j_iload_n X dX4_is_0 rfl rfl ?_
  by_cases n_1_0 : x2 = (2 : Int32)
  · replace hf := (if_pos n_1_0).symm.trans hf
    refine j_lsw (off := 27) (tgt := 28) X dX4_is_1 (by decide) (by rw [n_1_0]; decide) (by decide) ?_
    refine j_aload_n X dX4_is_28 rfl rfl ?_
    refine j_get (C := RX4) (T := TX4) (N := 10) X iX4 0 (wR_0 ..) rfl 2 (by decide) k_196 rfl rfl dX4_is_29 ?_
    refine j_iload_n X dX4_is_32 rfl rfl ?_
    obtain ⟨c2, hf⟩ := oi_in hf
    refine j_iald X 3 (wR_3 ..) c2 dX4_is_33 ?_
    obtain rfl := Option.some.inj hf
    exact j_iret X hr hlk rfl dX4_is_34 hQ
  · replace hf := (if_neg n_1_0).symm.trans hf
    by_cases n_1_1 : x2 = (3 : Int32)
    · replace hf := (if_pos n_1_1).symm.trans hf
      refine j_lsw (off := 34) (tgt := 35) X dX4_is_1 (by decide) (by rw [n_1_1]; decide) (by decide) ?_
      refine j_aload_n X dX4_is_35 rfl rfl ?_
      refine j_get (C := RX4) (T := TX4) (N := 10) X iX4 0 (wR_0 ..) rfl 3 (by decide) k_198 rfl rfl dX4_is_36 ?_
      refine j_iload_n X dX4_is_39 rfl rfl ?_
      obtain ⟨c3, hf⟩ := oi_in hf
      refine j_iald X 4 (wR_4 ..) c3 dX4_is_40 ?_
      obtain rfl := Option.some.inj hf
      exact j_iret X hr hlk rfl dX4_is_41 hQ
    · replace hf := (if_neg n_1_1).symm.trans hf
      refine j_lsw (off := 41) (tgt := 42) X dX4_is_1 (by decide) ((lv_osw n_1_0 rfl).trans <| (lv_osw n_1_1 rfl).trans <| rfl) (by decide) ?_
      refine j_aload_n X dX4_is_42 rfl rfl ?_
      refine j_get (C := RX4) (T := TX4) (N := 10) X iX4 0 (wR_0 ..) rfl 4 (by decide) k_201 rfl rfl dX4_is_43 ?_
      refine j_iload_n X dX4_is_46 rfl rfl ?_
      obtain ⟨c1, hf⟩ := oi_in hf
      refine j_iald X 5 (wR_5 ..) c1 dX4_is_47 ?_
      obtain rfl := Option.some.inj hf
      exact j_iret X hr hlk rfl dX4_is_48 hQ
def f_X4_whoIsAt_L2 : Nat → Mem → Int32 → Int32 → Option (Mem × Int32)
  | 0, _, _, _ => none
  | n + 1, μ, x1, x2 => (if (9 : Int32) ≤ x2 then some (μ, (-1 : Int32)) else (if inb x2 9 = true then (if (μ 3 x2.toNatClampNeg) = x1 then some (μ, x2) else (f_X4_whoIsAt_L2 n) μ x1 (x2 + (1 : Int32))) else none))
def f_X4_whoIsAt (μ : Mem) (x1 : Int32) : Option (Mem × Int32) := f_X4_whoIsAt_L2 fuel0 μ x1 (0 : Int32)
set_option maxHeartbeats 4000000 in
set_option maxRecDepth 20000 in
theorem c_X4_whoIsAt (E : Ev) (h : Nat → Nat) (g : Nat → Option Nat) {μ : Mem} {x1 : Int32} {r : (Mem × Int32)} (hf : f_X4_whoIsAt μ x1 = some r) : Ct E yX4_whoIsAt cX4_whoIsAt 3 (some .int) (rmOf 0 0) (wR E h g μ) (wR E h g r.1) [.ref (h 0), .int x1] (some (.int r.2)) := by
  refine ct_start RX4 1 (by decide) rfl (Nat.le_of_ble_eq_true rfl) ?_
  intro p l e s m args below meth c A Q X hr hlk hQ
  have lab2 : ∀ (n : Nat) (μ : Mem) (x1 : Int32) (x2 : Int32), f_X4_whoIsAt_L2 n μ x1 x2 = some r → J p l e (rmOf 0 0) s m args below meth c E A 3 Q (wR E h g μ) [some (.ref (h 0)), some (.int x1), some (.int x2)] 2 [] := by
    intro n
    induction n with
    | zero => intro μ x1 x2 hf; cases (show none = some r from hf)
    | succ n ih =>
      intro μ x1 x2 hf
      rw [f_X4_whoIsAt_L2] at hf
      refine j_iload_n X dX4_whoIsAt_2 rfl rfl ?_
      refine j_bipush (v := (9 : Int32)) X dX4_whoIsAt_3 (by decide) ?_
      refine j_icmp_ge (tgt := 26) X dX4_whoIsAt_5 (by decide) (fun c_5 => ?_) (fun c_5 => ?_)
      · replace hf := (if_pos c_5).symm.trans hf
        refine j_iconst (v := (-1 : Int32)) X dX4_whoIsAt_26 (by decide) ?_
        obtain rfl := Option.some.inj hf
        exact j_iret X hr hlk rfl dX4_whoIsAt_27 hQ
      · replace hf := (if_neg c_5).symm.trans hf
        refine j_aload_n X dX4_whoIsAt_8 rfl rfl ?_
        refine j_get (C := RX4) (T := TX4) (N := 10) X iX4 0 (wR_0 ..) rfl 2 (by decide) k_196 rfl rfl dX4_whoIsAt_9 ?_
        refine j_iload_n X dX4_whoIsAt_12 rfl rfl ?_
        obtain ⟨c1, hf⟩ := oi_in hf
        refine j_iald X 3 (wR_3 ..) c1 dX4_whoIsAt_13 ?_
        refine j_iload_n X dX4_whoIsAt_14 rfl rfl ?_
        refine j_icmp_ne (tgt := 20) X dX4_whoIsAt_15 (by decide) (fun c_15 => ?_) (fun c_15 => ?_)
        · replace hf := (if_neg c_15).symm.trans hf
          refine j_iinc2 (k := (1 : Int32)) X dX4_whoIsAt_20 (by decide) (by decide) rfl ?_
          refine j_goto (tgt := 2) X dX4_whoIsAt_23 (by decide) ?_
          refine j_keep [true, true, true] rfl ?_
          exact ih _ _ _ hf
        · replace hf := (if_pos c_15).symm.trans hf
          refine j_iload_n X dX4_whoIsAt_18 rfl rfl ?_
          obtain rfl := Option.some.inj hf
          exact j_iret X hr hlk rfl dX4_whoIsAt_19 hQ
  rw [f_X4_whoIsAt] at hf
  refine j_iconst (v := (0 : Int32)) X dX4_whoIsAt_0 (by decide) ?_
  refine j_istore_n2 X dX4_whoIsAt_1 rfl (by decide) rfl ?_
  refine j_keep [true, true, true] rfl ?_
  exact lab2 _ _ _ _ hf
theorem cut_wR_wR_c (E : Ev) (h : Nat → Nat) (g : Nat → Option Nat) (μ : Mem) : ([0, 1, 2, 3, 4, 5, 6, 7, 8, 9, 10, 11, 12, 13, 14, 15, 16, 17, 18, 19, 20, 21] : List Nat).map (fun i => (wR E h g μ)[i]?) = (wR E h g μ).map some := cutAll (n := 22) rfl
theorem cut_wR_wR_w (E : Ev) (h : Nat → Nat) (g : Nat → Option Nat) (μ : Mem) (ν : Mem) : putW (wR E h g μ) [0, 1, 2, 3, 4, 5, 6, 7, 8, 9, 10, 11, 12, 13, 14, 15, 16, 17, 18, 19, 20, 21] (wR E h g ν) = wR E h g ν := putW_all (n := 22) (by decide +kernel) rfl rfl
def f_X4_bits_L4 : Nat → Mem → Int32 → Int32 → Option (Mem × Int32)
  | 0, _, _, _ => none
  | n + 1, μ, x1, x2 => (if (9 : Int32) ≤ x2 then some (μ, x1) else (f_X4_stands μ x2).bind fun q1 => ((if q1.2 = 0 then (f_X4_bits_L4 n) q1.1 x1 (x2 + (1 : Int32)) else bd (x1 ||| ((1 : Int32) <<< (x2 &&& 31))) fun y2 => ((f_X4_bits_L4 n) q1.1 y2 (x2 + (1 : Int32))))))
def f_X4_bits (μ : Mem) : Option (Mem × Int32) := f_X4_bits_L4 fuel0 μ (0 : Int32) (0 : Int32)
set_option maxHeartbeats 4000000 in
set_option maxRecDepth 20000 in
theorem c_X4_bits (E : Ev) (h : Nat → Nat) (g : Nat → Option Nat) {μ : Mem} {r : (Mem × Int32)} (hf : f_X4_bits μ = some r) : Ct E yX4_bits cX4_bits 3 (some .int) (rmOf 1 21) (wR E h g μ) (wR E h g r.1) [.ref (h 0)] (some (.int r.2)) := by
  refine ct_start RX4 2 (by decide) rfl (Nat.le_of_ble_eq_true rfl) ?_
  intro p l e s m args below meth c A Q X hr hlk hQ
  have lab4 : ∀ (n : Nat) (μ : Mem) (x1 : Int32) (x2 : Int32), f_X4_bits_L4 n μ x1 x2 = some r → J p l e (rmOf 1 21) s m args below meth c E A 3 Q (wR E h g μ) [some (.ref (h 0)), some (.int x1), some (.int x2)] 4 [] := by
    intro n
    induction n with
    | zero => intro μ x1 x2 hf; cases (show none = some r from hf)
    | succ n ih =>
      intro μ x1 x2 hf
      rw [f_X4_bits_L4] at hf
      refine j_iload_n X dX4_bits_4 rfl rfl ?_
      refine j_bipush (v := (9 : Int32)) X dX4_bits_5 (by decide) ?_
      refine j_icmp_ge (tgt := 30) X dX4_bits_7 (by decide) (fun c_7 => ?_) (fun c_7 => ?_)
      · replace hf := (if_pos c_7).symm.trans hf
        refine j_iload_n X dX4_bits_30 rfl rfl ?_
        obtain rfl := Option.some.inj hf
        exact j_iret X hr hlk rfl dX4_bits_31 hQ
      · replace hf := (if_neg c_7).symm.trans hf
        refine j_aload_n X dX4_bits_10 rfl rfl ?_
        refine j_iload_n X dX4_bits_11 rfl rfl ?_
        obtain ⟨q1, g_q1, hf⟩ := ob_t hf
        refine j_callV X [0, 1, 2, 3, 4, 5, 6, 7, 8, 9, 10, 11, 12, 13, 14, 15, 16, 17, 18, 19, 20, 21] 0 (c_X4_stands E h g g_q1) (cut_wR_wR_c ..) rfl rfl (ws' := (wR E h g q1.1)) (cut_wR_wR_w ..) (wR_0 ..) rfl k_466 k_455 k_456 k_78 k_457 (⟨rfl, rfl⟩) hdV_X4_stands ⟨Nat.le_of_ble_eq_true rfl, Nat.le_of_ble_eq_true rfl⟩ rfl (Nat.le_of_ble_eq_true rfl) rfl dX4_bits_12 ?_
        refine j_if_eq (tgt := 24) X dX4_bits_15 (by decide) (fun c_15 => ?_) (fun c_15 => ?_)
        · replace hf := (if_pos c_15).symm.trans hf
          refine j_iinc2 (k := (1 : Int32)) X dX4_bits_24 (by decide) (by decide) rfl ?_
          refine j_goto (tgt := 4) X dX4_bits_27 (by decide) ?_
          refine j_keep [true, true, true] rfl ?_
          exact ih _ _ _ hf
        · replace hf := (if_neg c_15).symm.trans hf
          refine j_iload_n X dX4_bits_18 rfl rfl ?_
          refine j_iconst (v := (1 : Int32)) X dX4_bits_19 (by decide) ?_
          refine j_iload_n X dX4_bits_20 rfl rfl ?_
          refine j_ishl X dX4_bits_21 ?_
          refine j_ior X dX4_bits_22 ?_
          obtain ⟨y2, e_y2, hf⟩ := bd_e hf
          refine j_top e_y2 ?_
          refine j_istore_n1 X dX4_bits_23 rfl (by decide) rfl ?_
          refine j_iinc2 (k := (1 : Int32)) X dX4_bits_24 (by decide) (by decide) rfl ?_
          refine j_goto (tgt := 4) X dX4_bits_27 (by decide) ?_
          refine j_keep [true, true, true] rfl ?_
          exact ih _ _ _ hf
  rw [f_X4_bits] at hf
  refine j_iconst (v := (0 : Int32)) X dX4_bits_0 (by decide) ?_
  refine j_istore_n1 X dX4_bits_1 rfl (by decide) rfl ?_
  refine j_iconst (v := (0 : Int32)) X dX4_bits_2 (by decide) ?_
  refine j_istore_n2 X dX4_bits_3 rfl (by decide) rfl ?_
  refine j_keep [true, true, true] rfl ?_
  exact lab4 _ _ _ _ hf
def f_J6_bitCount_0f7a4 (x0 : Int32) : Option Int32 := bd (x0 - ((iushr x0 (1 : Int32)) &&& (1431655765 : Int32))) fun y1 => (bd ((y1 &&& (858993459 : Int32)) + ((iushr y1 (2 : Int32)) &&& (858993459 : Int32))) fun y2 => (bd ((y2 + (iushr y2 (4 : Int32))) &&& (252645135 : Int32)) fun y3 => (bd (y3 + (iushr y3 (8 : Int32))) fun y4 => (bd (y4 + (iushr y4 (16 : Int32))) fun y5 => (some (y5 &&& (63 : Int32)))))))
set_option maxHeartbeats 4000000 in
set_option maxRecDepth 20000 in
theorem c_J6_bitCount_0f7a4 (E : Ev) {x0 : Int32} {r : Int32} (hf : f_J6_bitCount_0f7a4 x0 = some r) : Ct E yJ6_bitCount_0f7a4 cJ6_bitCount_0f7a4 1 (some .int) (rmOf 0 0) [] [] [.int x0] (some (.int r)) := by
  refine ct_start RJ6 0 (by decide) rfl (Nat.le_of_ble_eq_true rfl) ?_
  intro p l e s m args below meth c A Q X hr hlk hQ
  rw [f_J6_bitCount_0f7a4] at hf
  refine j_iload_n X dJ6_bitCount_0f7a4_0 rfl rfl ?_
  refine j_iload_n X dJ6_bitCount_0f7a4_1 rfl rfl ?_
  refine j_iconst (v := (1 : Int32)) X dJ6_bitCount_0f7a4_2 (by decide) ?_
  refine j_iushr X dJ6_bitCount_0f7a4_3 ?_
  refine j_ldcw X k_660 dJ6_bitCount_0f7a4_4 ?_
  refine j_iand X dJ6_bitCount_0f7a4_7 ?_
  refine j_isub X dJ6_bitCount_0f7a4_8 ?_
  obtain ⟨y1, e_y1, hf⟩ := bd_e hf
  refine j_top e_y1 ?_
  refine j_istore_n0 X dJ6_bitCount_0f7a4_9 rfl (by decide) rfl ?_
  refine j_iload_n X dJ6_bitCount_0f7a4_10 rfl rfl ?_
  refine j_ldcw X k_661 dJ6_bitCount_0f7a4_11 ?_
  refine j_iand X dJ6_bitCount_0f7a4_14 ?_
  refine j_iload_n X dJ6_bitCount_0f7a4_15 rfl rfl ?_
  refine j_iconst (v := (2 : Int32)) X dJ6_bitCount_0f7a4_16 (by decide) ?_
  refine j_iushr X dJ6_bitCount_0f7a4_17 ?_
  refine j_ldcw X k_661 dJ6_bitCount_0f7a4_18 ?_
  refine j_iand X dJ6_bitCount_0f7a4_21 ?_
  refine j_iadd X dJ6_bitCount_0f7a4_22 ?_
  obtain ⟨y2, e_y2, hf⟩ := bd_e hf
  refine j_top e_y2 ?_
  refine j_istore_n0 X dJ6_bitCount_0f7a4_23 rfl (by decide) rfl ?_
  refine j_iload_n X dJ6_bitCount_0f7a4_24 rfl rfl ?_
  refine j_iload_n X dJ6_bitCount_0f7a4_25 rfl rfl ?_
  refine j_iconst (v := (4 : Int32)) X dJ6_bitCount_0f7a4_26 (by decide) ?_
  refine j_iushr X dJ6_bitCount_0f7a4_27 ?_
  refine j_iadd X dJ6_bitCount_0f7a4_28 ?_
  refine j_ldcw X k_662 dJ6_bitCount_0f7a4_29 ?_
  refine j_iand X dJ6_bitCount_0f7a4_32 ?_
  obtain ⟨y3, e_y3, hf⟩ := bd_e hf
  refine j_top e_y3 ?_
  refine j_istore_n0 X dJ6_bitCount_0f7a4_33 rfl (by decide) rfl ?_
  refine j_iload_n X dJ6_bitCount_0f7a4_34 rfl rfl ?_
  refine j_iload_n X dJ6_bitCount_0f7a4_35 rfl rfl ?_
  refine j_bipush (v := (8 : Int32)) X dJ6_bitCount_0f7a4_36 (by decide) ?_
  refine j_iushr X dJ6_bitCount_0f7a4_38 ?_
  refine j_iadd X dJ6_bitCount_0f7a4_39 ?_
  obtain ⟨y4, e_y4, hf⟩ := bd_e hf
  refine j_top e_y4 ?_
  refine j_istore_n0 X dJ6_bitCount_0f7a4_40 rfl (by decide) rfl ?_
  refine j_iload_n X dJ6_bitCount_0f7a4_41 rfl rfl ?_
  refine j_iload_n X dJ6_bitCount_0f7a4_42 rfl rfl ?_
  refine j_bipush (v := (16 : Int32)) X dJ6_bitCount_0f7a4_43 (by decide) ?_
  refine j_iushr X dJ6_bitCount_0f7a4_45 ?_
  refine j_iadd X dJ6_bitCount_0f7a4_46 ?_
  obtain ⟨y5, e_y5, hf⟩ := bd_e hf
  refine j_top e_y5 ?_
  refine j_istore_n0 X dJ6_bitCount_0f7a4_47 rfl (by decide) rfl ?_
  refine j_iload_n X dJ6_bitCount_0f7a4_48 rfl rfl ?_
  refine j_bipush (v := (63 : Int32)) X dJ6_bitCount_0f7a4_49 (by decide) ?_
  refine j_iand X dJ6_bitCount_0f7a4_51 ?_
  obtain rfl := Option.some.inj hf
  exact j_iret X hr hlk rfl dJ6_bitCount_0f7a4_52 hQ
def f_X4_howMany (μ : Mem) : Option (Mem × Int32) := (f_X4_bits μ).bind fun q1 => ((f_J6_bitCount_0f7a4 q1.2).bind fun q2 => (some (q1.1, q2)))
set_option maxHeartbeats 4000000 in
set_option maxRecDepth 20000 in
theorem c_X4_howMany (E : Ev) (h : Nat → Nat) (g : Nat → Option Nat) {μ : Mem} {r : (Mem × Int32)} (hf : f_X4_howMany μ = some r) : Ct E yX4_howMany cX4_howMany 1 (some .int) (rmOf 2 43) (wR E h g μ) (wR E h g r.1) [.ref (h 0)] (some (.int r.2)) := by
  refine ct_start RX4 0 (by decide) rfl (Nat.le_of_ble_eq_true rfl) ?_
  intro p l e s m args below meth c A Q X hr hlk hQ
  rw [f_X4_howMany] at hf
  refine j_aload_n X dX4_howMany_0 rfl rfl ?_
  obtain ⟨q1, g_q1, hf⟩ := ob_t hf
  refine j_callV X [0, 1, 2, 3, 4, 5, 6, 7, 8, 9, 10, 11, 12, 13, 14, 15, 16, 17, 18, 19, 20, 21] 0 (c_X4_bits E h g g_q1) (cut_wR_wR_c ..) rfl rfl (ws' := (wR E h g q1.1)) (cut_wR_wR_w ..) (wR_0 ..) rfl k_653 k_654 k_655 k_78 k_656 (⟨rfl, rfl⟩) hdV_X4_bits ⟨Nat.le_of_ble_eq_true rfl, Nat.le_of_ble_eq_true rfl⟩ rfl (Nat.le_of_ble_eq_true rfl) rfl dX4_howMany_1 ?_
  obtain ⟨q2, g_q2, hf⟩ := ob_t hf
  refine j_callS X [] (c_J6_bitCount_0f7a4 E g_q2) rfl rfl rfl (ws' := (wR E h g q1.1)) rfl k_657 k_658 k_83 k_659 (⟨rfl, rfl⟩) hdS_J6_bitCount_0f7a4 ⟨Nat.le_of_ble_eq_true rfl, Nat.le_of_ble_eq_true rfl⟩ rfl (Nat.le_of_ble_eq_true rfl) rfl dX4_howMany_4 ?_
  obtain rfl := Option.some.inj hf
  exact j_iret X hr hlk rfl dX4_howMany_7 hQ
def f_X4_allPatience_L4 : Nat → Mem → Int32 → Int32 → Option (Mem × Int32)
  | 0, _, _, _ => none
  | n + 1, μ, x1, x2 => (if (9 : Int32) ≤ x2 then some (μ, x1) else (f_X4_stands μ x2).bind fun q1 => ((if q1.2 = 0 then (f_X4_allPatience_L4 n) q1.1 x1 (x2 + (1 : Int32)) else (if inb x2 9 = true then bd (x1 + (q1.1 4 x2.toNatClampNeg)) fun y3 => ((f_X4_allPatience_L4 n) q1.1 y3 (x2 + (1 : Int32))) else none))))
def f_X4_allPatience (μ : Mem) : Option (Mem × Int32) := f_X4_allPatience_L4 fuel0 μ (0 : Int32) (0 : Int32)
set_option maxHeartbeats 4000000 in
set_option maxRecDepth 20000 in
theorem c_X4_allPatience (E : Ev) (h : Nat → Nat) (g : Nat → Option Nat) {μ : Mem} {r : (Mem × Int32)} (hf : f_X4_allPatience μ = some r) : Ct E yX4_allPatience cX4_allPatience 3 (some .int) (rmOf 1 21) (wR E h g μ) (wR E h g r.1) [.ref (h 0)] (some (.int r.2)) := by
  refine ct_start RX4 2 (by decide) rfl (Nat.le_of_ble_eq_true rfl) ?_
  intro p l e s m args below meth c A Q X hr hlk hQ
  have lab4 : ∀ (n : Nat) (μ : Mem) (x1 : Int32) (x2 : Int32), f_X4_allPatience_L4 n μ x1 x2 = some r → J p l e (rmOf 1 21) s m args below meth c E A 3 Q (wR E h g μ) [some (.ref (h 0)), some (.int x1), some (.int x2)] 4 [] := by
    intro n
    induction n with
    | zero => intro μ x1 x2 hf; cases (show none = some r from hf)
    | succ n ih =>
      intro μ x1 x2 hf
      rw [f_X4_allPatience_L4] at hf
      refine j_iload_n X dX4_allPatience_4 rfl rfl ?_
      refine j_bipush (v := (9 : Int32)) X dX4_allPatience_5 (by decide) ?_
      refine j_icmp_ge (tgt := 33) X dX4_allPatience_7 (by decide) (fun c_7 => ?_) (fun c_7 => ?_)
      · replace hf := (if_pos c_7).symm.trans hf
        refine j_iload_n X dX4_allPatience_33 rfl rfl ?_
        obtain rfl := Option.some.inj hf
        exact j_iret X hr hlk rfl dX4_allPatience_34 hQ
      · replace hf := (if_neg c_7).symm.trans hf
        refine j_aload_n X dX4_allPatience_10 rfl rfl ?_
        refine j_iload_n X dX4_allPatience_11 rfl rfl ?_
        obtain ⟨q1, g_q1, hf⟩ := ob_t hf
        refine j_callV X [0, 1, 2, 3, 4, 5, 6, 7, 8, 9, 10, 11, 12, 13, 14, 15, 16, 17, 18, 19, 20, 21] 0 (c_X4_stands E h g g_q1) (cut_wR_wR_c ..) rfl rfl (ws' := (wR E h g q1.1)) (cut_wR_wR_w ..) (wR_0 ..) rfl k_466 k_455 k_456 k_78 k_457 (⟨rfl, rfl⟩) hdV_X4_stands ⟨Nat.le_of_ble_eq_true rfl, Nat.le_of_ble_eq_true rfl⟩ rfl (Nat.le_of_ble_eq_true rfl) rfl dX4_allPatience_12 ?_
        refine j_if_eq (tgt := 27) X dX4_allPatience_15 (by decide) (fun c_15 => ?_) (fun c_15 => ?_)
        · replace hf := (if_pos c_15).symm.trans hf
          refine j_iinc2 (k := (1 : Int32)) X dX4_allPatience_27 (by decide) (by decide) rfl ?_
          refine j_goto (tgt := 4) X dX4_allPatience_30 (by decide) ?_
          refine j_keep [true, true, true] rfl ?_
          exact ih _ _ _ hf
        · replace hf := (if_neg c_15).symm.trans hf
          refine j_iload_n X dX4_allPatience_18 rfl rfl ?_
          refine j_aload_n X dX4_allPatience_19 rfl rfl ?_
          refine j_get (C := RX4) (T := TX4) (N := 10) X iX4 0 (wR_0 ..) rfl 3 (by decide) k_198 rfl rfl dX4_allPatience_20 ?_
          refine j_iload_n X dX4_allPatience_23 rfl rfl ?_
          obtain ⟨c2, hf⟩ := oi_in hf
          refine j_iald X 4 (wR_4 ..) c2 dX4_allPatience_24 ?_
          refine j_iadd X dX4_allPatience_25 ?_
          obtain ⟨y3, e_y3, hf⟩ := bd_e hf
          refine j_top e_y3 ?_
          refine j_istore_n1 X dX4_allPatience_26 rfl (by decide) rfl ?_
          refine j_iinc2 (k := (1 : Int32)) X dX4_allPatience_27 (by decide) (by decide) rfl ?_
          refine j_goto (tgt := 4) X dX4_allPatience_30 (by decide) ?_
          refine j_keep [true, true, true] rfl ?_
          exact ih _ _ _ hf
  rw [f_X4_allPatience] at hf
  refine j_iconst (v := (0 : Int32)) X dX4_allPatience_0 (by decide) ?_
  refine j_istore_n1 X dX4_allPatience_1 rfl (by decide) rfl ?_
  refine j_iconst (v := (0 : Int32)) X dX4_allPatience_2 (by decide) ?_
  refine j_istore_n2 X dX4_allPatience_3 rfl (by decide) rfl ?_
  refine j_keep [true, true, true] rfl ?_
  exact lab4 _ _ _ _ hf
def f_X4_changePosts (μ : Mem) (x1 : Int32) (x2 : Int32) : Option Mem := (if inb x1 9 = true then bd (μ 3 x1.toNatClampNeg) fun y2 => ((if inb x2 9 = true then (if inb x1 9 = true then bd (upA μ 3 (upd (μ 3) x1.toNatClampNeg (μ 3 x2.toNatClampNeg))) fun μ5 => ((if inb x2 9 = true then bd (upA μ5 3 (upd (μ5 3) x2.toNatClampNeg y2)) fun μ7 => (some μ7) else none)) else none) else none)) else none)
set_option maxHeartbeats 4000000 in
set_option maxRecDepth 20000 in
theorem c_X4_changePosts (E : Ev) (h : Nat → Nat) (g : Nat → Option Nat) {μ : Mem} {x1 : Int32} {x2 : Int32} {r : Mem} (hf : f_X4_changePosts μ x1 x2 = some r) : Ct E yX4_changePosts cX4_changePosts 4 none (rmOf 0 0) (wR E h g μ) (wR E h g r) [.ref (h 0), .int x1, .int x2] none := by
  refine ct_start RX4 1 (by decide) rfl (Nat.le_of_ble_eq_true rfl) ?_
  intro p l e s m args below meth c A Q X hr hlk hQ
  rw [f_X4_changePosts] at hf
  refine j_aload_n X dX4_changePosts_0 rfl rfl ?_
  refine j_get (C := RX4) (T := TX4) (N := 10) X iX4 0 (wR_0 ..) rfl 2 (by decide) k_196 rfl rfl dX4_changePosts_1 ?_
  refine j_iload_n X dX4_changePosts_4 rfl rfl ?_
  obtain ⟨c1, hf⟩ := oi_in hf
  refine j_iald X 3 (wR_3 ..) c1 dX4_changePosts_5 ?_
  obtain ⟨y2, e_y2, hf⟩ := bd_e hf
  refine j_top e_y2 ?_
  refine j_istore_n3 X dX4_changePosts_6 rfl (by decide) rfl ?_
  refine j_aload_n X dX4_changePosts_7 rfl rfl ?_
  refine j_get (C := RX4) (T := TX4) (N := 10) X iX4 0 (wR_0 ..) rfl 2 (by decide) k_196 rfl rfl dX4_changePosts_8 ?_
  refine j_iload_n X dX4_changePosts_11 rfl rfl ?_
  refine j_aload_n X dX4_changePosts_12 rfl rfl ?_
  refine j_get (C := RX4) (T := TX4) (N := 10) X iX4 0 (wR_0 ..) rfl 2 (by decide) k_196 rfl rfl dX4_changePosts_13 ?_
  refine j_iload_n X dX4_changePosts_16 rfl rfl ?_
  obtain ⟨c3, hf⟩ := oi_in hf
  refine j_iald X 3 (wR_3 ..) c3 dX4_changePosts_17 ?_
  obtain ⟨c4, hf⟩ := oi_in hf
  obtain ⟨μ5, e_μ5, hf⟩ := bd_e hf
  refine j_iast X 3 (wR_3 ..) c4 dX4_changePosts_18 (ws' := (wR E h g μ5)) (by rw [e_μ5]; exact wR_s3 ..) ?_
  refine j_aload_n X dX4_changePosts_19 rfl rfl ?_
  refine j_get (C := RX4) (T := TX4) (N := 10) X iX4 0 (wR_0 ..) rfl 2 (by decide) k_196 rfl rfl dX4_changePosts_20 ?_
  refine j_iload_n X dX4_changePosts_23 rfl rfl ?_
  refine j_iload_n X dX4_changePosts_24 rfl rfl ?_
  obtain ⟨c6, hf⟩ := oi_in hf
  obtain ⟨μ7, e_μ7, hf⟩ := bd_e hf
  refine j_iast X 3 (wR_3 ..) c6 dX4_changePosts_25 (ws' := (wR E h g μ7)) (by rw [e_μ7]; exact wR_s3 ..) ?_
  obtain rfl := Option.some.inj hf
  exact j_vret X hr hlk dX4_changePosts_26 hQ
def f_X4_held (x0 : Int32) : Option Int32 := some (if (0 : Int32) < (if x0 < (99 : Int32) then x0 else (99 : Int32)) then (if x0 < (99 : Int32) then x0 else (99 : Int32)) else (0 : Int32))
set_option maxHeartbeats 4000000 in
set_option maxRecDepth 20000 in
theorem c_X4_held (E : Ev) {x0 : Int32} {r : Int32} (hf : f_X4_held x0 = some r) : Ct E yX4_held cX4_held 1 (some .int) (rmOf 1 21) [] [] [.int x0] (some (.int r)) := by
  refine ct_start RX4 0 (by decide) rfl (Nat.le_of_ble_eq_true rfl) ?_
  intro p l e s m args below meth c A Q X hr hlk hQ
  rw [f_X4_held] at hf
  refine j_iconst (v := (0 : Int32)) X dX4_held_0 (by decide) ?_
  refine j_bipush (v := (99 : Int32)) X dX4_held_1 (by decide) ?_
  refine j_iload_n X dX4_held_3 rfl rfl ?_
  refine j_mmin X k_404 k_405 k_81 k_406 (Nat.le_of_ble_eq_true rfl) (Nat.le_of_ble_eq_true rfl) dX4_held_4 ?_
  refine j_mmax X k_407 k_408 k_81 k_409 (Nat.le_of_ble_eq_true rfl) (Nat.le_of_ble_eq_true rfl) dX4_held_7 ?_
  obtain rfl := Option.some.inj hf
  exact j_iret X hr hlk rfl dX4_held_10 hQ
def f_X4_lessen (μ : Mem) (x1 : Int32) (x2 : Int32) : Option Mem := (if inb x1 9 = true then (if inb x1 9 = true then bd (upA μ 4 (upd (μ 4) x1.toNatClampNeg (if (0 : Int32) < ((μ 4 x1.toNatClampNeg) - x2) then ((μ 4 x1.toNatClampNeg) - x2) else (0 : Int32)))) fun μ3 => (some μ3) else none) else none)
set_option maxHeartbeats 4000000 in
set_option maxRecDepth 20000 in
theorem c_X4_lessen (E : Ev) (h : Nat → Nat) (g : Nat → Option Nat) {μ : Mem} {x1 : Int32} {x2 : Int32} {r : Mem} (hf : f_X4_lessen μ x1 x2 = some r) : Ct E yX4_lessen cX4_lessen 3 none (rmOf 1 21) (wR E h g μ) (wR E h g r) [.ref (h 0), .int x1, .int x2] none := by
  refine ct_start RX4 0 (by decide) rfl (Nat.le_of_ble_eq_true rfl) ?_
  intro p l e s m args below meth c A Q X hr hlk hQ
  rw [f_X4_lessen] at hf
  refine j_aload_n X dX4_lessen_0 rfl rfl ?_
  refine j_get (C := RX4) (T := TX4) (N := 10) X iX4 0 (wR_0 ..) rfl 3 (by decide) k_198 rfl rfl dX4_lessen_1 ?_
  refine j_iload_n X dX4_lessen_4 rfl rfl ?_
  refine j_iconst (v := (0 : Int32)) X dX4_lessen_5 (by decide) ?_
  refine j_aload_n X dX4_lessen_6 rfl rfl ?_
  refine j_get (C := RX4) (T := TX4) (N := 10) X iX4 0 (wR_0 ..) rfl 3 (by decide) k_198 rfl rfl dX4_lessen_7 ?_
  refine j_iload_n X dX4_lessen_10 rfl rfl ?_
  obtain ⟨c1, hf⟩ := oi_in hf
  refine j_iald X 4 (wR_4 ..) c1 dX4_lessen_11 ?_
  refine j_iload_n X dX4_lessen_12 rfl rfl ?_
  refine j_isub X dX4_lessen_13 ?_
  refine j_mmax X k_407 k_408 k_81 k_409 (Nat.le_of_ble_eq_true rfl) (Nat.le_of_ble_eq_true rfl) dX4_lessen_14 ?_
  obtain ⟨c2, hf⟩ := oi_in hf
  obtain ⟨μ3, e_μ3, hf⟩ := bd_e hf
  refine j_iast X 4 (wR_4 ..) c2 dX4_lessen_17 (ws' := (wR E h g μ3)) (by rw [e_μ3]; exact wR_s4 ..) ?_
  obtain rfl := Option.some.inj hf
  exact j_vret X hr hlk dX4_lessen_18 hQ
def f_X4_leastAtZero_L2 : Nat → Mem → Int32 → Option (Mem × Int32)
  | 0, _, _ => none
  | n + 1, μ, x1 => (if (9 : Int32) ≤ x1 then some (μ, (-1 : Int32)) else (f_X4_stands μ x1).bind fun q1 => ((if q1.2 = 0 then (f_X4_leastAtZero_L2 n) q1.1 (x1 + (1 : Int32)) else (if inb x1 9 = true then (if (q1.1 4 x1.toNatClampNeg) = 0 then some (q1.1, x1) else (f_X4_leastAtZero_L2 n) q1.1 (x1 + (1 : Int32))) else none))))
def f_X4_leastAtZero (μ : Mem) : Option (Mem × Int32) := f_X4_leastAtZero_L2 fuel0 μ (0 : Int32)
set_option maxHeartbeats 4000000 in
set_option maxRecDepth 20000 in
theorem c_X4_leastAtZero (E : Ev) (h : Nat → Nat) (g : Nat → Option Nat) {μ : Mem} {r : (Mem × Int32)} (hf : f_X4_leastAtZero μ = some r) : Ct E yX4_leastAtZero cX4_leastAtZero 2 (some .int) (rmOf 1 21) (wR E h g μ) (wR E h g r.1) [.ref (h 0)] (some (.int r.2)) := by
  refine ct_start RX4 1 (by decide) rfl (Nat.le_of_ble_eq_true rfl) ?_
  intro p l e s m args below meth c A Q X hr hlk hQ
  have lab2 : ∀ (n : Nat) (μ : Mem) (x1 : Int32), f_X4_leastAtZero_L2 n μ x1 = some r → J p l e (rmOf 1 21) s m args below meth c E A 2 Q (wR E h g μ) [some (.ref (h 0)), some (.int x1)] 2 [] := by
    intro n
    induction n with
    | zero => intro μ x1 hf; cases (show none = some r from hf)
    | succ n ih =>
      intro μ x1 hf
      rw [f_X4_leastAtZero_L2] at hf
      refine j_iload_n X dX4_leastAtZero_2 rfl rfl ?_
      refine j_bipush (v := (9 : Int32)) X dX4_leastAtZero_3 (by decide) ?_
      refine j_icmp_ge (tgt := 33) X dX4_leastAtZero_5 (by decide) (fun c_5 => ?_) (fun c_5 => ?_)
      · replace hf := (if_pos c_5).symm.trans hf
        refine j_iconst (v := (-1 : Int32)) X dX4_leastAtZero_33 (by decide) ?_
        obtain rfl := Option.some.inj hf
        exact j_iret X hr hlk rfl dX4_leastAtZero_34 hQ
      · replace hf := (if_neg c_5).symm.trans hf
        refine j_aload_n X dX4_leastAtZero_8 rfl rfl ?_
        refine j_iload_n X dX4_leastAtZero_9 rfl rfl ?_
        obtain ⟨q1, g_q1, hf⟩ := ob_t hf
        refine j_callV X [0, 1, 2, 3, 4, 5, 6, 7, 8, 9, 10, 11, 12, 13, 14, 15, 16, 17, 18, 19, 20, 21] 0 (c_X4_stands E h g g_q1) (cut_wR_wR_c ..) rfl rfl (ws' := (wR E h g q1.1)) (cut_wR_wR_w ..) (wR_0 ..) rfl k_466 k_455 k_456 k_78 k_457 (⟨rfl, rfl⟩) hdV_X4_stands ⟨Nat.le_of_ble_eq_true rfl, Nat.le_of_ble_eq_true rfl⟩ rfl (Nat.le_of_ble_eq_true rfl) rfl dX4_leastAtZero_10 ?_
        refine j_if_eq (tgt := 27) X dX4_leastAtZero_13 (by decide) (fun c_13 => ?_) (fun c_13 => ?_)
        · replace hf := (if_pos c_13).symm.trans hf
          refine j_iinc1 (k := (1 : Int32)) X dX4_leastAtZero_27 (by decide) (by decide) rfl ?_
          refine j_goto (tgt := 2) X dX4_leastAtZero_30 (by decide) ?_
          refine j_keep [true, true] rfl ?_
          exact ih _ _ hf
        · replace hf := (if_neg c_13).symm.trans hf
          refine j_aload_n X dX4_leastAtZero_16 rfl rfl ?_
          refine j_get (C := RX4) (T := TX4) (N := 10) X iX4 0 (wR_0 ..) rfl 3 (by decide) k_198 rfl rfl dX4_leastAtZero_17 ?_
          refine j_iload_n X dX4_leastAtZero_20 rfl rfl ?_
          obtain ⟨c2, hf⟩ := oi_in hf
          refine j_iald X 4 (wR_4 ..) c2 dX4_leastAtZero_21 ?_
          refine j_if_ne (tgt := 27) X dX4_leastAtZero_22 (by decide) (fun c_22 => ?_) (fun c_22 => ?_)
          · replace hf := (if_neg c_22).symm.trans hf
            refine j_iinc1 (k := (1 : Int32)) X dX4_leastAtZero_27 (by decide) (by decide) rfl ?_
            refine j_goto (tgt := 2) X dX4_leastAtZero_30 (by decide) ?_
            refine j_keep [true, true] rfl ?_
            exact ih _ _ hf
          · replace hf := (if_pos c_22).symm.trans hf
            refine j_iload_n X dX4_leastAtZero_25 rfl rfl ?_
            obtain rfl := Option.some.inj hf
            exact j_iret X hr hlk rfl dX4_leastAtZero_26 hQ
  rw [f_X4_leastAtZero] at hf
  refine j_iconst (v := (0 : Int32)) X dX4_leastAtZero_0 (by decide) ?_
  refine j_istore_n1 X dX4_leastAtZero_1 rfl (by decide) rfl ?_
  refine j_keep [true, true] rfl ?_
  exact lab2 _ _ _ hf
theorem cut_wR_wL_10_11_12_c (E : Ev) (h : Nat → Nat) (g : Nat → Option Nat) (μ : Mem) : ([10, 11, 12, 13] : List Nat).map (fun i => (wR E h g μ)[i]?) = (wL E (fun j => h (List.getD [10, 11, 12, 13] j 0)) (fun j => g (List.getD [1] j 0)) (sub [10, 11, 12, 13] μ)).map some := rfl
theorem cut_wR_wL_10_11_12_w (E : Ev) (h : Nat → Nat) (g : Nat → Option Nat) (μ : Mem) (ν : Mem) : putW (wR E h g μ) [10, 11, 12, 13] (wL E (fun j => h (List.getD [10, 11, 12, 13] j 0)) (fun j => g (List.getD [1] j 0)) ν) = wR E h g (put [10, 11, 12, 13] μ ν) := putW_A (by decide +kernel) rfl rfl
def f_X4_stir_L12 : Nat → Mem → Int32 → Int32 → Option Mem
  | 0, _, _, _ => none
  | n + 1, μ, x1, x2 => (if (9 : Int32) ≤ x2 then some μ else (f_X4_stands μ x2).bind fun q3 => ((if q3.2 = 0 then (f_X4_stir_L12 n) q3.1 x1 (x2 + (1 : Int32)) else (if inb x2 9 = true then (if inb x1 9 = true then bd (if 0 ≤ ((q3.1 3 x2.toNatClampNeg) - (q3.1 3 x1.toNatClampNeg)) then ((q3.1 3 x2.toNatClampNeg) - (q3.1 3 x1.toNatClampNeg)) else 0 - ((q3.1 3 x2.toNatClampNeg) - (q3.1 3 x1.toNatClampNeg))) fun y6 => ((f_X1_isMissing (sub [10, 11, 12, 13] q3.1)).bind fun q7 => (bd (put [10, 11, 12, 13] q3.1 q7.1) fun μ8 => ((if q7.2 = 0 then (if inb x2 9 = true then (if inb x2 9 = true then (f_X1_gives (sub [10, 11, 12, 13] μ8) y6 (μ8 4 x2.toNatClampNeg) (μ8 2 x2.toNatClampNeg)).bind fun q12 => (bd (put [10, 11, 12, 13] μ8 q12.1) fun μ13 => ((f_X4_held q12.2).bind fun q14 => ((f_X4_lessen μ13 x2 q14).bind fun q15 => ((f_X4_stir_L12 n) q15 x1 (x2 + (1 : Int32)))))) else none) else none) else (if y6 = (1 : Int32) then (f_X4_lessen μ8 x2 (8 : Int32)).bind fun q9 => ((f_X4_stir_L12 n) q9 x1 (x2 + (1 : Int32))) else (f_X4_stir_L12 n) μ8 x1 (x2 + (1 : Int32))))))) else none) else none))))
def f_X4_stir (μ : Mem) (x1 : Int32) : Option Mem := (if inb x1 9 = true then bd (upA μ 5 (upd (μ 5) x1.toNatClampNeg (μ 0 6))) fun μ2 => (f_X4_stir_L12 fuel0 μ2 x1 (0 : Int32)) else none)
set_option maxHeartbeats 4000000 in
set_option maxRecDepth 20000 in
theorem c_X4_stir (E : Ev) (h : Nat → Nat) (g : Nat → Option Nat) {μ : Mem} {x1 : Int32} {r : Mem} (hf : f_X4_stir μ x1 = some r) : Ct E yX4_stir cX4_stir 4 none (rmOf 2 48) (wR E h g μ) (wR E h g r) [.ref (h 0), .int x1] none := by
  refine ct_start RX4 2 (by decide) rfl (Nat.le_of_ble_eq_true rfl) ?_
  intro p l e s m args below meth c A Q X hr hlk hQ
  have lab12 : ∀ (n : Nat) (μ : Mem) (x1 : Int32) (x2 : Int32), f_X4_stir_L12 n μ x1 x2 = some r → J p l e (rmOf 2 48) s m args below meth c E A 4 Q (wR E h g μ) [some (.ref (h 0)), some (.int x1), some (.int x2), none] 12 [] := by
    intro n
    induction n with
    | zero => intro μ x1 x2 hf; cases (show none = some r from hf)
    | succ n ih =>
      intro μ x1 x2 hf
      rw [f_X4_stir_L12] at hf
      refine j_iload_n X dX4_stir_12 rfl rfl ?_
      refine j_bipush (v := (9 : Int32)) X dX4_stir_13 (by decide) ?_
      refine j_icmp_ge (tgt := 105) X dX4_stir_15 (by decide) (fun c_15 => ?_) (fun c_15 => ?_)
      · replace hf := (if_pos c_15).symm.trans hf
        obtain rfl := Option.some.inj hf
        exact j_vret X hr hlk dX4_stir_105 hQ
      · replace hf := (if_neg c_15).symm.trans hf
        refine j_aload_n X dX4_stir_18 rfl rfl ?_
        refine j_iload_n X dX4_stir_19 rfl rfl ?_
        obtain ⟨q3, g_q3, hf⟩ := ob_t hf
        refine j_callV X [0, 1, 2, 3, 4, 5, 6, 7, 8, 9, 10, 11, 12, 13, 14, 15, 16, 17, 18, 19, 20, 21] 0 (c_X4_stands E h g g_q3) (cut_wR_wR_c ..) rfl rfl (ws' := (wR E h g q3.1)) (cut_wR_wR_w ..) (wR_0 ..) rfl k_466 k_455 k_456 k_78 k_457 (⟨rfl, rfl⟩) hdV_X4_stands ⟨Nat.le_of_ble_eq_true rfl, Nat.le_of_ble_eq_true rfl⟩ rfl (Nat.le_of_ble_eq_true rfl) rfl dX4_stir_20 ?_
        refine j_if_ne (tgt := 29) X dX4_stir_23 (by decide) (fun c_23 => ?_) (fun c_23 => ?_)
        · replace hf := (if_neg c_23).symm.trans hf
          refine j_aload_n X dX4_stir_29 rfl rfl ?_
          refine j_get (C := RX4) (T := TX4) (N := 10) X iX4 0 (wR_0 ..) rfl 2 (by decide) k_196 rfl rfl dX4_stir_30 ?_
          refine j_iload_n X dX4_stir_33 rfl rfl ?_
          obtain ⟨c4, hf⟩ := oi_in hf
          refine j_iald X 3 (wR_3 ..) c4 dX4_stir_34 ?_
          refine j_aload_n X dX4_stir_35 rfl rfl ?_
          refine j_get (C := RX4) (T := TX4) (N := 10) X iX4 0 (wR_0 ..) rfl 2 (by decide) k_196 rfl rfl dX4_stir_36 ?_
          refine j_iload_n X dX4_stir_39 rfl rfl ?_
          obtain ⟨c5, hf⟩ := oi_in hf
          refine j_iald X 3 (wR_3 ..) c5 dX4_stir_40 ?_
          refine j_isub X dX4_stir_41 ?_
          refine j_mabs X k_471 k_472 k_81 k_473 (Nat.le_of_ble_eq_true rfl) (Nat.le_of_ble_eq_true rfl) dX4_stir_42 ?_
          obtain ⟨y6, e_y6, hf⟩ := bd_e hf
          refine j_top e_y6 ?_
          refine j_istore_n3 X dX4_stir_45 rfl (by decide) rfl ?_
          refine j_aload_n X dX4_stir_46 rfl rfl ?_
          refine j_get (C := RX4) (T := TX4) (N := 10) X iX4 0 (wR_0 ..) rfl 8 (by decide) k_211 rfl rfl dX4_stir_47 ?_
          obtain ⟨q7, g_q7, hf⟩ := ob_t hf
          obtain ⟨μ8, e_μ8, hf⟩ := bd_e hf
          refine j_callV X [10, 11, 12, 13] 0 (c_X1_isMissing E (fun j => h (List.getD [10, 11, 12, 13] j 0)) (fun j => g (List.getD [1] j 0)) g_q7) (cut_wR_wL_10_11_12_c ..) rfl rfl (ws' := (wR E h g μ8)) (by rw [e_μ8]; exact cut_wR_wL_10_11_12_w ..) (wL_0 ..) rfl k_474 k_388 k_389 k_77 k_390 (⟨rfl, rfl⟩) hdV_X1_isMissing ⟨Nat.le_of_ble_eq_true rfl, Nat.le_of_ble_eq_true rfl⟩ rfl (Nat.le_of_ble_eq_true rfl) rfl dX4_stir_50 ?_
          refine j_if_ne (tgt := 87) X dX4_stir_53 (by decide) (fun c_53 => ?_) (fun c_53 => ?_)
          · replace hf := (if_neg c_53).symm.trans hf
            refine j_iload_n X dX4_stir_87 rfl rfl ?_
            refine j_iconst (v := (1 : Int32)) X dX4_stir_88 (by decide) ?_
            refine j_icmp_ne (tgt := 99) X dX4_stir_89 (by decide) (fun c_89 => ?_) (fun c_89 => ?_)
            · replace hf := (if_neg c_89).symm.trans hf
              refine j_iinc2 (k := (1 : Int32)) X dX4_stir_99 (by decide) (by decide) rfl ?_
              refine j_goto (tgt := 12) X dX4_stir_102 (by decide) ?_
              refine j_keep [true, true, true, false] rfl ?_
              exact ih _ _ _ hf
            · replace hf := (if_pos c_89).symm.trans hf
              refine j_aload_n X dX4_stir_92 rfl rfl ?_
              refine j_iload_n X dX4_stir_93 rfl rfl ?_
              refine j_bipush (v := (8 : Int32)) X dX4_stir_94 (by decide) ?_
              obtain ⟨q9, g_q9, hf⟩ := ob_t hf
              refine j_callV X [0, 1, 2, 3, 4, 5, 6, 7, 8, 9, 10, 11, 12, 13, 14, 15, 16, 17, 18, 19, 20, 21] 0 (c_X4_lessen E h g g_q9) (cut_wR_wR_c ..) rfl rfl (ws' := (wR E h g q9)) (cut_wR_wR_w ..) (wR_0 ..) rfl k_476 k_478 k_3 k_78 k_479 (⟨rfl, rfl⟩) hdV_X4_lessen ⟨Nat.le_of_ble_eq_true rfl, Nat.le_of_ble_eq_true rfl⟩ rfl (Nat.le_of_ble_eq_true rfl) rfl dX4_stir_96 ?_
              refine j_iinc2 (k := (1 : Int32)) X dX4_stir_99 (by decide) (by decide) rfl ?_
              refine j_goto (tgt := 12) X dX4_stir_102 (by decide) ?_
              refine j_keep [true, true, true, false] rfl ?_
              exact ih _ _ _ hf
          · replace hf := (if_pos c_53).symm.trans hf
            refine j_aload_n X dX4_stir_56 rfl rfl ?_
            refine j_iload_n X dX4_stir_57 rfl rfl ?_
            refine j_aload_n X dX4_stir_58 rfl rfl ?_
            refine j_get (C := RX4) (T := TX4) (N := 10) X iX4 0 (wR_0 ..) rfl 8 (by decide) k_211 rfl rfl dX4_stir_59 ?_
            refine j_iload_n X dX4_stir_62 rfl rfl ?_
            refine j_aload_n X dX4_stir_63 rfl rfl ?_
            refine j_get (C := RX4) (T := TX4) (N := 10) X iX4 0 (wR_0 ..) rfl 3 (by decide) k_198 rfl rfl dX4_stir_64 ?_
            refine j_iload_n X dX4_stir_67 rfl rfl ?_
            obtain ⟨c10, hf⟩ := oi_in hf
            refine j_iald X 4 (wR_4 ..) c10 dX4_stir_68 ?_
            refine j_aload_n X dX4_stir_69 rfl rfl ?_
            refine j_get (C := RX4) (T := TX4) (N := 10) X iX4 0 (wR_0 ..) rfl 1 (by decide) k_191 rfl rfl dX4_stir_70 ?_
            refine j_iload_n X dX4_stir_73 rfl rfl ?_
            obtain ⟨c11, hf⟩ := oi_in hf
            refine j_iald X 2 (wR_2 ..) c11 dX4_stir_74 ?_
            obtain ⟨q12, g_q12, hf⟩ := ob_t hf
            obtain ⟨μ13, e_μ13, hf⟩ := bd_e hf
            refine j_callV X [10, 11, 12, 13] 0 (c_X1_gives E (fun j => h (List.getD [10, 11, 12, 13] j 0)) (fun j => g (List.getD [1] j 0)) g_q12) (cut_wR_wL_10_11_12_c ..) rfl rfl (ws' := (wR E h g μ13)) (by rw [e_μ13]; exact cut_wR_wL_10_11_12_w ..) (wL_0 ..) rfl k_475 k_393 k_394 k_77 k_395 (⟨rfl, rfl⟩) hdV_X1_gives ⟨Nat.le_of_ble_eq_true rfl, Nat.le_of_ble_eq_true rfl⟩ rfl (Nat.le_of_ble_eq_true rfl) rfl dX4_stir_75 ?_
            obtain ⟨q14, g_q14, hf⟩ := ob_t hf
            refine j_callS X [] (c_X4_held E g_q14) rfl rfl rfl (ws' := (wR E h g μ13)) rfl k_401 k_402 k_78 k_403 (⟨rfl, rfl⟩) hdS_X4_held ⟨Nat.le_of_ble_eq_true rfl, Nat.le_of_ble_eq_true rfl⟩ rfl (Nat.le_of_ble_eq_true rfl) rfl dX4_stir_78 ?_
            obtain ⟨q15, g_q15, hf⟩ := ob_t hf
            refine j_callV X [0, 1, 2, 3, 4, 5, 6, 7, 8, 9, 10, 11, 12, 13, 14, 15, 16, 17, 18, 19, 20, 21] 0 (c_X4_lessen E h g g_q15) (cut_wR_wR_c ..) rfl rfl (ws' := (wR E h g q15)) (cut_wR_wR_w ..) (wR_0 ..) rfl k_476 k_478 k_3 k_78 k_479 (⟨rfl, rfl⟩) hdV_X4_lessen ⟨Nat.le_of_ble_eq_true rfl, Nat.le_of_ble_eq_true rfl⟩ rfl (Nat.le_of_ble_eq_true rfl) rfl dX4_stir_81 ?_
            refine j_goto (tgt := 99) X dX4_stir_84 (by decide) ?_
            refine j_iinc2 (k := (1 : Int32)) X dX4_stir_99 (by decide) (by decide) rfl ?_
            refine j_goto (tgt := 12) X dX4_stir_102 (by decide) ?_
            refine j_keep [true, true, true, false] rfl ?_
            exact ih _ _ _ hf
        · replace hf := (if_pos c_23).symm.trans hf
          refine j_goto (tgt := 99) X dX4_stir_26 (by decide) ?_
          refine j_iinc2 (k := (1 : Int32)) X dX4_stir_99 (by decide) (by decide) rfl ?_
          refine j_goto (tgt := 12) X dX4_stir_102 (by decide) ?_
          refine j_keep [true, true, true, false] rfl ?_
          exact ih _ _ _ hf
  rw [f_X4_stir] at hf
  refine j_aload_n X dX4_stir_0 rfl rfl ?_
  refine j_get (C := RX4) (T := TX4) (N := 10) X iX4 0 (wR_0 ..) rfl 4 (by decide) k_201 rfl rfl dX4_stir_1 ?_
  refine j_iload_n X dX4_stir_4 rfl rfl ?_
  refine j_aload_n X dX4_stir_5 rfl rfl ?_
  refine j_get (C := RX4) (T := TX4) (N := 10) X iX4 0 (wR_0 ..) rfl 6 (by decide) k_207 rfl rfl dX4_stir_6 ?_
  obtain ⟨c1, hf⟩ := oi_in hf
  obtain ⟨μ2, e_μ2, hf⟩ := bd_e hf
  refine j_iast X 5 (wR_5 ..) c1 dX4_stir_9 (ws' := (wR E h g μ2)) (by rw [e_μ2]; exact wR_s5 ..) ?_
  refine j_iconst (v := (0 : Int32)) X dX4_stir_10 (by decide) ?_
  refine j_istore_n2 X dX4_stir_11 rfl (by decide) rfl ?_
  refine j_keep [true, true, true, false] rfl ?_
  exact lab12 _ _ _ _ hf
