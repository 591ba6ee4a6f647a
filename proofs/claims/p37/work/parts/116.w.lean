def f_X10_leans_k5 (μ : Mem) (x2 : Int32) : Option (Mem × Int32) := (f_X6_begins μ (60 : Int32)).bind fun q1 => ((f_X2_leans_k5 q1 (x2 + (1 : Int32))).bind fun q2 => (some (q2.1, q2.2)))
set_option maxHeartbeats 4000000 in
set_option maxRecDepth 20000 in
theorem c_X10_leans_k5 (E : Ev) (h : Nat → Nat) (g : Nat → Option Nat) {μ : Mem} {x2 : Int32} {r : (Mem × Int32)} (hf : f_X10_leans_k5 μ x2 = some r) : Ct E yX10_leans cX10_leans 3 (some .int) (rmOf 4 87) (wV E h g μ) (wV E h g r.1) [.ref (h 8), .ref (h 0), .int x2] (some (.int r.2)) := by
  refine ct_start RX10 0 (by decide) rfl (Nat.le_of_ble_eq_true rfl) ?_
  intro p l e s m args below meth c A Q X hr hlk hQ
  rw [f_X10_leans_k5] at hf
  refine j_aload_n X dX10_leans_0 rfl rfl ?_
  refine j_bipush (v := (60 : Int32)) X dX10_leans_1 (by decide) ?_
  obtain ⟨q1, g_q1, hf⟩ := ob_t hf
  refine j_callV X [0, 1, 2, 3, 4, 5, 6, 7, 8, 9] 0 (c_X6_begins E h g g_q1) (cut_wV_wV_c ..) rfl rfl (ws' := (wV E h g q1)) (cut_wV_wV_w ..) (wV_0 ..) rfl k_782 k_745 k_746 k_79 k_747 (⟨rfl, rfl⟩) hdV_X6_begins ⟨Nat.le_of_ble_eq_true rfl, Nat.le_of_ble_eq_true rfl⟩ rfl (Nat.le_of_ble_eq_true rfl) rfl dX10_leans_3 ?_
  refine j_aload_n X dX10_leans_6 rfl rfl ?_
  refine j_aload_n X dX10_leans_7 rfl rfl ?_
  refine j_iload_n X dX10_leans_8 rfl rfl ?_
  refine j_iconst (v := (1 : Int32)) X dX10_leans_9 (by decide) ?_
  refine j_iadd X dX10_leans_10 ?_
  obtain ⟨q2, g_q2, hf⟩ := ob_t hf
  refine j_callSU X [0, 1, 2, 3, 4, 5, 6, 7, 8, 9] 8 (c_X2_leans_k5 E h g g_q2) (cut_wV_wV_c ..) rfl rfl (ws' := (wV E h g q2.1)) (cut_wV_wV_w ..) (wV_8 ..) rfl k_783 k_1341 k_134 k_769 k_71 k_770 (⟨rfl, rfl⟩) hdSU_X2_leans ⟨Nat.le_of_ble_eq_true rfl, Nat.le_of_ble_eq_true rfl⟩ rfl (Nat.le_of_ble_eq_true rfl) rfl dX10_leans_11 ?_
  obtain rfl := Option.some.inj hf
  exact j_iret X hr hlk rfl dX10_leans_14 hQ
def f_X7_sways_k5 (μ : Mem) (x2 : Int32) : Option (Mem × Int32) := (f_X6_begins μ (12 : Int32)).bind fun q1 => ((f_X10_leans_k5 q1 x2).bind fun q2 => (some (q2.1, (q2.2 - (q2.1 0 1)))))
set_option maxHeartbeats 4000000 in
set_option maxRecDepth 20000 in
theorem c_X7_sways_k5 (E : Ev) (h : Nat → Nat) (g : Nat → Option Nat) {μ : Mem} {x2 : Int32} {r : (Mem × Int32)} (hf : f_X7_sways_k5 μ x2 = some r) : Ct E yX7_sways cX7_sways 3 (some .int) (rmOf 5 109) (wV E h g μ) (wV E h g r.1) [.ref (h 8), .ref (h 0), .int x2] (some (.int r.2)) := by
  refine ct_start RX7 0 (by decide) rfl (Nat.le_of_ble_eq_true rfl) ?_
  intro p l e s m args below meth c A Q X hr hlk hQ
  rw [f_X7_sways_k5] at hf
  refine j_aload_n X dX7_sways_0 rfl rfl ?_
  refine j_bipush (v := (12 : Int32)) X dX7_sways_1 (by decide) ?_
  obtain ⟨q1, g_q1, hf⟩ := ob_t hf
  refine j_callV X [0, 1, 2, 3, 4, 5, 6, 7, 8, 9] 0 (c_X6_begins E h g g_q1) (cut_wV_wV_c ..) rfl rfl (ws' := (wV E h g q1)) (cut_wV_wV_w ..) (wV_0 ..) rfl k_762 k_745 k_746 k_79 k_747 (⟨rfl, rfl⟩) hdV_X6_begins ⟨Nat.le_of_ble_eq_true rfl, Nat.le_of_ble_eq_true rfl⟩ rfl (Nat.le_of_ble_eq_true rfl) rfl dX7_sways_3 ?_
  refine j_aload_n X dX7_sways_6 rfl rfl ?_
  refine j_aload_n X dX7_sways_7 rfl rfl ?_
  refine j_iload_n X dX7_sways_8 rfl rfl ?_
  obtain ⟨q2, g_q2, hf⟩ := ob_t hf
  refine j_callO (n := 2) (x := ⟨RX7, "leans", "(LStandStill$Speaker;I)I"⟩) (owner := RX7) X [0, 1, 2, 3, 4, 5, 6, 7, 8, 9] 8 (c_X10_leans_k5 E h g g_q2) (cut_wV_wV_c ..) rfl rfl (ws' := (wV E h g q2.1)) (cut_wV_wV_w ..) (wV_8 ..) rfl k_806 k_766 k_764 k_779 k_780 k_74 k_781 (⟨rfl, rfl⟩) k_784 (by decide +kernel) ⟨Nat.le_of_ble_eq_true rfl, Nat.le_of_ble_eq_true rfl⟩ rfl (Nat.le_of_ble_eq_true rfl) rfl dX7_sways_9 ?_
  refine j_aload_n X dX7_sways_12 rfl rfl ?_
  refine j_get (C := RX6) (T := TX6) (N := 7) X iX6 0 (wV_0 ..) rfl 1 (by decide) k_282 rfl rfl dX7_sways_13 ?_
  refine j_isub X dX7_sways_16 ?_
  obtain rfl := Option.some.inj hf
  exact j_iret X hr hlk rfl dX7_sways_17 hQ
def f_X7_parts_k5 (μ : Mem) (x2 : Int32) : Option (Mem × Int32) := (f_X6_begins μ (13 : Int32)).bind fun q1 => (bd ((q1 0 1) - (q1 0 0)) fun y2 => ((if y2 = 0 then bd (upA q1 0 (upd (q1 0) 2 (1 : Int32))) fun μ4 => (some (μ4, (0 : Int32))) else (if ¬ y2 = 0 then some (q1, (x2 / y2)) else none))))
set_option maxHeartbeats 4000000 in
set_option maxRecDepth 20000 in
theorem c_X7_parts_k5 (E : Ev) (h : Nat → Nat) (g : Nat → Option Nat) {μ : Mem} {x2 : Int32} {r : (Mem × Int32)} (hf : f_X7_parts_k5 μ x2 = some r) : Ct E yX7_parts cX7_parts 4 (some .int) (rmOf 1 21) (wV E h g μ) (wV E h g r.1) [.ref (h 8), .ref (h 0), .int x2] (some (.int r.2)) := by
  refine ct_start RX7 1 (by decide) rfl (Nat.le_of_ble_eq_true rfl) ?_
  intro p l e s m args below meth c A Q X hr hlk hQ
  rw [f_X7_parts_k5] at hf
  refine j_aload_n X dX7_parts_0 rfl rfl ?_
  refine j_bipush (v := (13 : Int32)) X dX7_parts_1 (by decide) ?_
  obtain ⟨q1, g_q1, hf⟩ := ob_t hf
  refine j_callV X [0, 1, 2, 3, 4, 5, 6, 7, 8, 9] 0 (c_X6_begins E h g g_q1) (cut_wV_wV_c ..) rfl rfl (ws' := (wV E h g q1)) (cut_wV_wV_w ..) (wV_0 ..) rfl k_762 k_745 k_746 k_79 k_747 (⟨rfl, rfl⟩) hdV_X6_begins ⟨Nat.le_of_ble_eq_true rfl, Nat.le_of_ble_eq_true rfl⟩ rfl (Nat.le_of_ble_eq_true rfl) rfl dX7_parts_3 ?_
  refine j_aload_n X dX7_parts_6 rfl rfl ?_
  refine j_get (C := RX6) (T := TX6) (N := 7) X iX6 0 (wV_0 ..) rfl 1 (by decide) k_282 rfl rfl dX7_parts_7 ?_
  refine j_aload_n X dX7_parts_10 rfl rfl ?_
  refine j_get (C := RX6) (T := TX6) (N := 7) X iX6 0 (wV_0 ..) rfl 0 (by decide) k_278 rfl rfl dX7_parts_11 ?_
  refine j_isub X dX7_parts_14 ?_
  obtain ⟨y2, e_y2, hf⟩ := bd_e hf
  refine j_top e_y2 ?_
  refine j_istore_n3 X dX7_parts_15 rfl (by decide) rfl ?_
  refine j_iload_n X dX7_parts_16 rfl rfl ?_
  refine j_if_ne (tgt := 27) X dX7_parts_17 (by decide) (fun c_17 => ?_) (fun c_17 => ?_)
  · replace hf := (if_neg c_17).symm.trans hf
    refine j_iload_n X dX7_parts_27 rfl rfl ?_
    refine j_iload_n X dX7_parts_28 rfl rfl ?_
    obtain ⟨c3, hf⟩ := oi_t hf
    refine j_idiv X dX7_parts_29 c3 ?_
    obtain rfl := Option.some.inj hf
    exact j_iret X hr hlk rfl dX7_parts_30 hQ
  · replace hf := (if_pos c_17).symm.trans hf
    refine j_aload_n X dX7_parts_20 rfl rfl ?_
    refine j_iconst (v := (1 : Int32)) X dX7_parts_21 (by decide) ?_
    obtain ⟨μ4, e_μ4, hf⟩ := bd_e hf
    refine j_put (C := RX6) (T := TX6) (N := 7) X iX6 0 (wV_0 ..) rfl 2 (by decide) k_285 rfl tyX6 tyX6_ok nmX6 rfl (ty := .boolean) (by decide +kernel) rfl rfl (Nat.le_of_ble_eq_true rfl) dX7_parts_22 (ws' := (wV E h g μ4)) (by rw [e_μ4]; exact wV_f0_2 ..) ?_
    refine j_iconst (v := (0 : Int32)) X dX7_parts_25 (by decide) ?_
    obtain rfl := Option.some.inj hf
    exact j_iret X hr hlk rfl dX7_parts_26 hQ
def f_X9_holds_k6 (μ : Mem) (x2 : Int32) : Option (Mem × Int32) := (f_X6_begins μ (70 : Int32)).bind fun q1 => (some (q1, (9 : Int32)))
set_option maxHeartbeats 4000000 in
set_option maxRecDepth 20000 in
theorem c_X9_holds_k6 (E : Ev) (h : Nat → Nat) (g : Nat → Option Nat) {μ : Mem} {x2 : Int32} {r : (Mem × Int32)} (hf : f_X9_holds_k6 μ x2 = some r) : Ct E yX9_holds cX9_holds 3 (some .int) (rmOf 1 21) (wV E h g μ) (wV E h g r.1) [.ref (h 9), .ref (h 0), .int x2] (some (.int r.2)) := by
  refine ct_start RX9 0 (by decide) rfl (Nat.le_of_ble_eq_true rfl) ?_
  intro p l e s m args below meth c A Q X hr hlk hQ
  rw [f_X9_holds_k6] at hf
  refine j_aload_n X dX9_holds_0 rfl rfl ?_
  refine j_bipush (v := (70 : Int32)) X dX9_holds_1 (by decide) ?_
  obtain ⟨q1, g_q1, hf⟩ := ob_t hf
  refine j_callV X [0, 1, 2, 3, 4, 5, 6, 7, 8, 9] 0 (c_X6_begins E h g g_q1) (cut_wV_wV_c ..) rfl rfl (ws' := (wV E h g q1)) (cut_wV_wV_w ..) (wV_0 ..) rfl k_759 k_745 k_746 k_79 k_747 (⟨rfl, rfl⟩) hdV_X6_begins ⟨Nat.le_of_ble_eq_true rfl, Nat.le_of_ble_eq_true rfl⟩ rfl (Nat.le_of_ble_eq_true rfl) rfl dX9_holds_3 ?_
  refine j_bipush (v := (9 : Int32)) X dX9_holds_6 (by decide) ?_
  obtain rfl := Option.some.inj hf
  exact j_iret X hr hlk rfl dX9_holds_8 hQ
def f_X7_leans_k6 (μ : Mem) (x2 : Int32) : Option (Mem × Int32) := (f_X6_begins μ (11 : Int32)).bind fun q1 => ((f_X9_holds_k6 q1 x2).bind fun q2 => (some (q2.1, (q2.2 * (2 : Int32)))))
set_option maxHeartbeats 4000000 in
set_option maxRecDepth 20000 in
theorem c_X7_leans_k6 (E : Ev) (h : Nat → Nat) (g : Nat → Option Nat) {μ : Mem} {x2 : Int32} {r : (Mem × Int32)} (hf : f_X7_leans_k6 μ x2 = some r) : Ct E yX7_leans cX7_leans 3 (some .int) (rmOf 2 43) (wV E h g μ) (wV E h g r.1) [.ref (h 9), .ref (h 0), .int x2] (some (.int r.2)) := by
  refine ct_start RX7 0 (by decide) rfl (Nat.le_of_ble_eq_true rfl) ?_
  intro p l e s m args below meth c A Q X hr hlk hQ
  rw [f_X7_leans_k6] at hf
  refine j_aload_n X dX7_leans_0 rfl rfl ?_
  refine j_bipush (v := (11 : Int32)) X dX7_leans_1 (by decide) ?_
  obtain ⟨q1, g_q1, hf⟩ := ob_t hf
  refine j_callV X [0, 1, 2, 3, 4, 5, 6, 7, 8, 9] 0 (c_X6_begins E h g g_q1) (cut_wV_wV_c ..) rfl rfl (ws' := (wV E h g q1)) (cut_wV_wV_w ..) (wV_0 ..) rfl k_762 k_745 k_746 k_79 k_747 (⟨rfl, rfl⟩) hdV_X6_begins ⟨Nat.le_of_ble_eq_true rfl, Nat.le_of_ble_eq_true rfl⟩ rfl (Nat.le_of_ble_eq_true rfl) rfl dX7_leans_3 ?_
  refine j_aload_n X dX7_leans_6 rfl rfl ?_
  refine j_aload_n X dX7_leans_7 rfl rfl ?_
  refine j_iload_n X dX7_leans_8 rfl rfl ?_
  obtain ⟨q2, g_q2, hf⟩ := ob_t hf
  refine j_callO (n := 2) (x := ⟨RX7, "holds", "(LStandStill$Speaker;I)I"⟩) (owner := RX7) X [0, 1, 2, 3, 4, 5, 6, 7, 8, 9] 9 (c_X9_holds_k6 E h g g_q2) (cut_wV_wV_c ..) rfl rfl (ws' := (wV E h g q2.1)) (cut_wV_wV_w ..) (wV_9 ..) rfl k_785 k_740 k_738 k_756 k_757 k_75 k_758 (⟨rfl, rfl⟩) k_761 (by decide +kernel) ⟨Nat.le_of_ble_eq_true rfl, Nat.le_of_ble_eq_true rfl⟩ rfl (Nat.le_of_ble_eq_true rfl) rfl dX7_leans_9 ?_
  refine j_iconst (v := (2 : Int32)) X dX7_leans_12 (by decide) ?_
  refine j_imul X dX7_leans_13 ?_
  obtain rfl := Option.some.inj hf
  exact j_iret X hr hlk rfl dX7_leans_14 hQ
def f_X9_leans_k6 (μ : Mem) (x2 : Int32) : Option (Mem × Int32) := (f_X6_begins μ (71 : Int32)).bind fun q1 => ((f_X7_leans_k6 q1 x2).bind fun q2 => (some (q2.1, (q2.2 + (q2.1 0 1)))))
set_option maxHeartbeats 4000000 in
set_option maxRecDepth 20000 in
theorem c_X9_leans_k6 (E : Ev) (h : Nat → Nat) (g : Nat → Option Nat) {μ : Mem} {x2 : Int32} {r : (Mem × Int32)} (hf : f_X9_leans_k6 μ x2 = some r) : Ct E yX9_leans cX9_leans 3 (some .int) (rmOf 3 65) (wV E h g μ) (wV E h g r.1) [.ref (h 9), .ref (h 0), .int x2] (some (.int r.2)) := by
  refine ct_start RX9 0 (by decide) rfl (Nat.le_of_ble_eq_true rfl) ?_
  intro p l e s m args below meth c A Q X hr hlk hQ
  rw [f_X9_leans_k6] at hf
  refine j_aload_n X dX9_leans_0 rfl rfl ?_
  refine j_bipush (v := (71 : Int32)) X dX9_leans_1 (by decide) ?_
  obtain ⟨q1, g_q1, hf⟩ := ob_t hf
  refine j_callV X [0, 1, 2, 3, 4, 5, 6, 7, 8, 9] 0 (c_X6_begins E h g g_q1) (cut_wV_wV_c ..) rfl rfl (ws' := (wV E h g q1)) (cut_wV_wV_w ..) (wV_0 ..) rfl k_759 k_745 k_746 k_79 k_747 (⟨rfl, rfl⟩) hdV_X6_begins ⟨Nat.le_of_ble_eq_true rfl, Nat.le_of_ble_eq_true rfl⟩ rfl (Nat.le_of_ble_eq_true rfl) rfl dX9_leans_3 ?_
  refine j_aload_n X dX9_leans_6 rfl rfl ?_
  refine j_aload_n X dX9_leans_7 rfl rfl ?_
  refine j_iload_n X dX9_leans_8 rfl rfl ?_
  obtain ⟨q2, g_q2, hf⟩ := ob_t hf
  refine j_callSU X [0, 1, 2, 3, 4, 5, 6, 7, 8, 9] 9 (c_X7_leans_k6 E h g g_q2) (cut_wV_wV_c ..) rfl rfl (ws' := (wV E h g q2.1)) (cut_wV_wV_w ..) (wV_9 ..) rfl k_778 k_766 k_141 k_764 k_69 k_784 (⟨rfl, rfl⟩) hdSU_X7_leans ⟨Nat.le_of_ble_eq_true rfl, Nat.le_of_ble_eq_true rfl⟩ rfl (Nat.le_of_ble_eq_true rfl) rfl dX9_leans_9 ?_
  refine j_aload_n X dX9_leans_12 rfl rfl ?_
  refine j_get (C := RX6) (T := TX6) (N := 7) X iX6 0 (wV_0 ..) rfl 1 (by decide) k_281 rfl rfl dX9_leans_13 ?_
  refine j_iadd X dX9_leans_16 ?_
  obtain rfl := Option.some.inj hf
  exact j_iret X hr hlk rfl dX9_leans_17 hQ
def f_X7_sways_k6 (μ : Mem) (x2 : Int32) : Option (Mem × Int32) := (f_X6_begins μ (12 : Int32)).bind fun q1 => ((f_X9_leans_k6 q1 x2).bind fun q2 => (some (q2.1, (q2.2 - (q2.1 0 1)))))
set_option maxHeartbeats 4000000 in
set_option maxRecDepth 20000 in
theorem c_X7_sways_k6 (E : Ev) (h : Nat → Nat) (g : Nat → Option Nat) {μ : Mem} {x2 : Int32} {r : (Mem × Int32)} (hf : f_X7_sways_k6 μ x2 = some r) : Ct E yX7_sways cX7_sways 3 (some .int) (rmOf 4 87) (wV E h g μ) (wV E h g r.1) [.ref (h 9), .ref (h 0), .int x2] (some (.int r.2)) := by
  refine ct_start RX7 0 (by decide) rfl (Nat.le_of_ble_eq_true rfl) ?_
  intro p l e s m args below meth c A Q X hr hlk hQ
  rw [f_X7_sways_k6] at hf
  refine j_aload_n X dX7_sways_0 rfl rfl ?_
  refine j_bipush (v := (12 : Int32)) X dX7_sways_1 (by decide) ?_
  obtain ⟨q1, g_q1, hf⟩ := ob_t hf
  refine j_callV X [0, 1, 2, 3, 4, 5, 6, 7, 8, 9] 0 (c_X6_begins E h g g_q1) (cut_wV_wV_c ..) rfl rfl (ws' := (wV E h g q1)) (cut_wV_wV_w ..) (wV_0 ..) rfl k_762 k_745 k_746 k_79 k_747 (⟨rfl, rfl⟩) hdV_X6_begins ⟨Nat.le_of_ble_eq_true rfl, Nat.le_of_ble_eq_true rfl⟩ rfl (Nat.le_of_ble_eq_true rfl) rfl dX7_sways_3 ?_
  refine j_aload_n X dX7_sways_6 rfl rfl ?_
  refine j_aload_n X dX7_sways_7 rfl rfl ?_
  refine j_iload_n X dX7_sways_8 rfl rfl ?_
  obtain ⟨q2, g_q2, hf⟩ := ob_t hf
  refine j_callO (n := 2) (x := ⟨RX7, "leans", "(LStandStill$Speaker;I)I"⟩) (owner := RX7) X [0, 1, 2, 3, 4, 5, 6, 7, 8, 9] 9 (c_X9_leans_k6 E h g g_q2) (cut_wV_wV_c ..) rfl rfl (ws' := (wV E h g q2.1)) (cut_wV_wV_w ..) (wV_9 ..) rfl k_806 k_766 k_764 k_775 k_776 k_75 k_777 (⟨rfl, rfl⟩) k_784 (by decide +kernel) ⟨Nat.le_of_ble_eq_true rfl, Nat.le_of_ble_eq_true rfl⟩ rfl (Nat.le_of_ble_eq_true rfl) rfl dX7_sways_9 ?_
  refine j_aload_n X dX7_sways_12 rfl rfl ?_
  refine j_get (C := RX6) (T := TX6) (N := 7) X iX6 0 (wV_0 ..) rfl 1 (by decide) k_282 rfl rfl dX7_sways_13 ?_
  refine j_isub X dX7_sways_16 ?_
  obtain rfl := Option.some.inj hf
  exact j_iret X hr hlk rfl dX7_sways_17 hQ
def f_X7_parts_k6 (μ : Mem) (x2 : Int32) : Option (Mem × Int32) := (f_X6_begins μ (13 : Int32)).bind fun q1 => (bd ((q1 0 1) - (q1 0 0)) fun y2 => ((if y2 = 0 then bd (upA q1 0 (upd (q1 0) 2 (1 : Int32))) fun μ4 => (some (μ4, (0 : Int32))) else (if ¬ y2 = 0 then some (q1, (x2 / y2)) else none))))
set_option maxHeartbeats 4000000 in
set_option maxRecDepth 20000 in
theorem c_X7_parts_k6 (E : Ev) (h : Nat → Nat) (g : Nat → Option Nat) {μ : Mem} {x2 : Int32} {r : (Mem × Int32)} (hf : f_X7_parts_k6 μ x2 = some r) : Ct E yX7_parts cX7_parts 4 (some .int) (rmOf 1 21) (wV E h g μ) (wV E h g r.1) [.ref (h 9), .ref (h 0), .int x2] (some (.int r.2)) := by
  refine ct_start RX7 1 (by decide) rfl (Nat.le_of_ble_eq_true rfl) ?_
  intro p l e s m args below meth c A Q X hr hlk hQ
  rw [f_X7_parts_k6] at hf
  refine j_aload_n X dX7_parts_0 rfl rfl ?_
  refine j_bipush (v := (13 : Int32)) X dX7_parts_1 (by decide) ?_
  obtain ⟨q1, g_q1, hf⟩ := ob_t hf
  refine j_callV X [0, 1, 2, 3, 4, 5, 6, 7, 8, 9] 0 (c_X6_begins E h g g_q1) (cut_wV_wV_c ..) rfl rfl (ws' := (wV E h g q1)) (cut_wV_wV_w ..) (wV_0 ..) rfl k_762 k_745 k_746 k_79 k_747 (⟨rfl, rfl⟩) hdV_X6_begins ⟨Nat.le_of_ble_eq_true rfl, Nat.le_of_ble_eq_true rfl⟩ rfl (Nat.le_of_ble_eq_true rfl) rfl dX7_parts_3 ?_
  refine j_aload_n X dX7_parts_6 rfl rfl ?_
  refine j_get (C := RX6) (T := TX6) (N := 7) X iX6 0 (wV_0 ..) rfl 1 (by decide) k_282 rfl rfl dX7_parts_7 ?_
  refine j_aload_n X dX7_parts_10 rfl rfl ?_
  refine j_get (C := RX6) (T := TX6) (N := 7) X iX6 0 (wV_0 ..) rfl 0 (by decide) k_278 rfl rfl dX7_parts_11 ?_
  refine j_isub X dX7_parts_14 ?_
  obtain ⟨y2, e_y2, hf⟩ := bd_e hf
  refine j_top e_y2 ?_
  refine j_istore_n3 X dX7_parts_15 rfl (by decide) rfl ?_
  refine j_iload_n X dX7_parts_16 rfl rfl ?_
  refine j_if_ne (tgt := 27) X dX7_parts_17 (by decide) (fun c_17 => ?_) (fun c_17 => ?_)
  · replace hf := (if_neg c_17).symm.trans hf
    refine j_iload_n X dX7_parts_27 rfl rfl ?_
    refine j_iload_n X dX7_parts_28 rfl rfl ?_
    obtain ⟨c3, hf⟩ := oi_t hf
    refine j_idiv X dX7_parts_29 c3 ?_
    obtain rfl := Option.some.inj hf
    exact j_iret X hr hlk rfl dX7_parts_30 hQ
  · replace hf := (if_pos c_17).symm.trans hf
    refine j_aload_n X dX7_parts_20 rfl rfl ?_
    refine j_iconst (v := (1 : Int32)) X dX7_parts_21 (by decide) ?_
    obtain ⟨μ4, e_μ4, hf⟩ := bd_e hf
    refine j_put (C := RX6) (T := TX6) (N := 7) X iX6 0 (wV_0 ..) rfl 2 (by decide) k_285 rfl tyX6 tyX6_ok nmX6 rfl (ty := .boolean) (by decide +kernel) rfl rfl (Nat.le_of_ble_eq_true rfl) dX7_parts_22 (ws' := (wV E h g μ4)) (by rw [e_μ4]; exact wV_f0_2 ..) ?_
    refine j_iconst (v := (0 : Int32)) X dX7_parts_25 (by decide) ?_
    obtain rfl := Option.some.inj hf
    exact j_iret X hr hlk rfl dX7_parts_26 hQ
def f_X11_voice_L141 (μ : Mem) (x5 : Int32) : Option (Mem × Int32) := (if (μ 74 2) = 0 then (f_X6_keep (sub [74, 75, 76, 67, 68, 69, 70, 71, 72, 73] μ)).bind fun q11 => (bd (put [74, 75, 76, 67, 68, 69, 70, 71, 72, 73] μ q11) fun μ12 => (some (μ12, x5))) else (f_X11_fails μ (6 : Int32)).bind fun q13 => (some (q13.1, q13.2)))
def f_X11_voice (μ : Mem) (x1 : Int32) (x2 : Int32) (x3 : Int32) : Option (Mem × Int32) := (f_X11_isStander x1).bind fun q1 => ((if q1 = 0 then (f_X11_fails μ (1 : Int32)).bind fun q2 => (some (q2.1, q2.2)) else (f_X11_within x2 (0 : Int32) (3 : Int32)).bind fun q3 => ((if q3 = 0 then (f_X11_fails μ (1 : Int32)).bind fun q86 => (some (q86.1, q86.2)) else (f_X4_kindOf (sub [23, 24, 25, 26, 27, 28, 7, 8, 9, 10, 11, 12, 13, 14, 66, 67, 68, 69, 70, 71, 72, 73] μ) x1).bind fun q4 => (bd (put [23, 24, 25, 26, 27, 28, 7, 8, 9, 10, 11, 12, 13, 14, 66, 67, 68, 69, 70, 71, 72, 73] μ q4.1) fun μ5 => ((if q4.2 = 15 then (if inb x1 9 = true then (f_X6_starts (sub [74, 75, 76, 67, 68, 69, 70, 71, 72, 73] μ5) x1 (μ5 25 x1.toNatClampNeg)).bind fun q7 => (bd (put [74, 75, 76, 67, 68, 69, 70, 71, 72, 73] μ5 q7) fun μ8 => ((if x2 = (0 : Int32) then (f_X7_holds_k0 (sub [74, 75, 76, 67, 68, 69, 70, 71, 72, 73] μ8) x3).bind fun q9 => (bd (put [74, 75, 76, 67, 68, 69, 70, 71, 72, 73] μ8 q9.1) fun μ10 => (f_X11_voice_L141 μ10 q9.2)) else (if x2 = (1 : Int32) then (f_X7_leans_k0 (sub [74, 75, 76, 67, 68, 69, 70, 71, 72, 73] μ8) x3).bind fun q14 => (bd (put [74, 75, 76, 67, 68, 69, 70, 71, 72, 73] μ8 q14.1) fun μ15 => (f_X11_voice_L141 μ15 q14.2)) else (if x2 = (2 : Int32) then (f_X7_sways_k0 (sub [74, 75, 76, 67, 68, 69, 70, 71, 72, 73] μ8) x3).bind fun q16 => (bd (put [74, 75, 76, 67, 68, 69, 70, 71, 72, 73] μ8 q16.1) fun μ17 => (f_X11_voice_L141 μ17 q16.2)) else (f_X7_parts_k0 (sub [74, 75, 76, 67, 68, 69, 70, 71, 72, 73] μ8) x3).bind fun q18 => (bd (put [74, 75, 76, 67, 68, 69, 70, 71, 72, 73] μ8 q18.1) fun μ19 => (f_X11_voice_L141 μ19 q18.2))))))) else none) else (if q4.2 = 16 then (if inb x1 9 = true then (f_X6_starts (sub [74, 75, 76, 67, 68, 69, 70, 71, 72, 73] μ5) x1 (μ5 25 x1.toNatClampNeg)).bind fun q21 => (bd (put [74, 75, 76, 67, 68, 69, 70, 71, 72, 73] μ5 q21) fun μ22 => ((if x2 = (0 : Int32) then (f_X0_holds_k1 (sub [74, 75, 76, 67, 68, 69, 70, 71, 72, 73] μ22) x3).bind fun q23 => (bd (put [74, 75, 76, 67, 68, 69, 70, 71, 72, 73] μ22 q23.1) fun μ24 => (f_X11_voice_L141 μ24 q23.2)) else (if x2 = (1 : Int32) then (f_X7_leans_k1 (sub [74, 75, 76, 67, 68, 69, 70, 71, 72, 73] μ22) x3).bind fun q25 => (bd (put [74, 75, 76, 67, 68, 69, 70, 71, 72, 73] μ22 q25.1) fun μ26 => (f_X11_voice_L141 μ26 q25.2)) else (if x2 = (2 : Int32) then (f_X7_sways_k1 (sub [74, 75, 76, 67, 68, 69, 70, 71, 72, 73] μ22) x3).bind fun q27 => (bd (put [74, 75, 76, 67, 68, 69, 70, 71, 72, 73] μ22 q27.1) fun μ28 => (f_X11_voice_L141 μ28 q27.2)) else (f_X0_parts_k1 (sub [74, 75, 76, 67, 68, 69, 70, 71, 72, 73] μ22) x3).bind fun q29 => (bd (put [74, 75, 76, 67, 68, 69, 70, 71, 72, 73] μ22 q29.1) fun μ30 => (f_X11_voice_L141 μ30 q29.2))))))) else none) else (if q4.2 = 17 then (if inb x1 9 = true then (f_X6_starts (sub [74, 75, 76, 67, 68, 69, 70, 71, 72, 73] μ5) x1 (μ5 25 x1.toNatClampNeg)).bind fun q32 => (bd (put [74, 75, 76, 67, 68, 69, 70, 71, 72, 73] μ5 q32) fun μ33 => ((if x2 = (0 : Int32) then (f_X7_holds_k2 (sub [74, 75, 76, 67, 68, 69, 70, 71, 72, 73] μ33) x3).bind fun q34 => (bd (put [74, 75, 76, 67, 68, 69, 70, 71, 72, 73] μ33 q34.1) fun μ35 => (f_X11_voice_L141 μ35 q34.2)) else (if x2 = (1 : Int32) then (f_X2_leans_k2 (sub [74, 75, 76, 67, 68, 69, 70, 71, 72, 73] μ33) x3).bind fun q36 => (bd (put [74, 75, 76, 67, 68, 69, 70, 71, 72, 73] μ33 q36.1) fun μ37 => (f_X11_voice_L141 μ37 q36.2)) else (if x2 = (2 : Int32) then (f_X7_sways_k2 (sub [74, 75, 76, 67, 68, 69, 70, 71, 72, 73] μ33) x3).bind fun q38 => (bd (put [74, 75, 76, 67, 68, 69, 70, 71, 72, 73] μ33 q38.1) fun μ39 => (f_X11_voice_L141 μ39 q38.2)) else (f_X7_parts_k2 (sub [74, 75, 76, 67, 68, 69, 70, 71, 72, 73] μ33) x3).bind fun q40 => (bd (put [74, 75, 76, 67, 68, 69, 70, 71, 72, 73] μ33 q40.1) fun μ41 => (f_X11_voice_L141 μ41 q40.2))))))) else none) else (if q4.2 = 18 then (if inb x1 9 = true then (f_X6_starts (sub [74, 75, 76, 67, 68, 69, 70, 71, 72, 73] μ5) x1 (μ5 25 x1.toNatClampNeg)).bind fun q43 => (bd (put [74, 75, 76, 67, 68, 69, 70, 71, 72, 73] μ5 q43) fun μ44 => ((if x2 = (0 : Int32) then (f_X7_holds_k3 (sub [74, 75, 76, 67, 68, 69, 70, 71, 72, 73] μ44) x3).bind fun q45 => (bd (put [74, 75, 76, 67, 68, 69, 70, 71, 72, 73] μ44 q45.1) fun μ46 => (f_X11_voice_L141 μ46 q45.2)) else (if x2 = (1 : Int32) then (f_X7_leans_k3 (sub [74, 75, 76, 67, 68, 69, 70, 71, 72, 73] μ44) x3).bind fun q47 => (bd (put [74, 75, 76, 67, 68, 69, 70, 71, 72, 73] μ44 q47.1) fun μ48 => (f_X11_voice_L141 μ48 q47.2)) else (if x2 = (2 : Int32) then (f_X8_sways_k3 (sub [74, 75, 76, 67, 68, 69, 70, 71, 72, 73] μ44) x3).bind fun q49 => (bd (put [74, 75, 76, 67, 68, 69, 70, 71, 72, 73] μ44 q49.1) fun μ50 => (f_X11_voice_L141 μ50 q49.2)) else (f_X7_parts_k3 (sub [74, 75, 76, 67, 68, 69, 70, 71, 72, 73] μ44) x3).bind fun q51 => (bd (put [74, 75, 76, 67, 68, 69, 70, 71, 72, 73] μ44 q51.1) fun μ52 => (f_X11_voice_L141 μ52 q51.2))))))) else none) else (if q4.2 = 19 then (if inb x1 9 = true then (f_X6_starts (sub [74, 75, 76, 67, 68, 69, 70, 71, 72, 73] μ5) x1 (μ5 25 x1.toNatClampNeg)).bind fun q54 => (bd (put [74, 75, 76, 67, 68, 69, 70, 71, 72, 73] μ5 q54) fun μ55 => ((if x2 = (0 : Int32) then (f_X3_holds_k4 (sub [74, 75, 76, 67, 68, 69, 70, 71, 72, 73] μ55) x3).bind fun q56 => (bd (put [74, 75, 76, 67, 68, 69, 70, 71, 72, 73] μ55 q56.1) fun μ57 => (f_X11_voice_L141 μ57 q56.2)) else (if x2 = (1 : Int32) then (f_X7_leans_k4 (sub [74, 75, 76, 67, 68, 69, 70, 71, 72, 73] μ55) x3).bind fun q58 => (bd (put [74, 75, 76, 67, 68, 69, 70, 71, 72, 73] μ55 q58.1) fun μ59 => (f_X11_voice_L141 μ59 q58.2)) else (if x2 = (2 : Int32) then (f_X3_sways_k4 (sub [74, 75, 76, 67, 68, 69, 70, 71, 72, 73] μ55) x3).bind fun q60 => (bd (put [74, 75, 76, 67, 68, 69, 70, 71, 72, 73] μ55 q60.1) fun μ61 => (f_X11_voice_L141 μ61 q60.2)) else (f_X0_parts_k4 (sub [74, 75, 76, 67, 68, 69, 70, 71, 72, 73] μ55) x3).bind fun q62 => (bd (put [74, 75, 76, 67, 68, 69, 70, 71, 72, 73] μ55 q62.1) fun μ63 => (f_X11_voice_L141 μ63 q62.2))))))) else none) else (if q4.2 = 20 then (if inb x1 9 = true then (f_X6_starts (sub [74, 75, 76, 67, 68, 69, 70, 71, 72, 73] μ5) x1 (μ5 25 x1.toNatClampNeg)).bind fun q65 => (bd (put [74, 75, 76, 67, 68, 69, 70, 71, 72, 73] μ5 q65) fun μ66 => ((if x2 = (0 : Int32) then (f_X7_holds_k5 (sub [74, 75, 76, 67, 68, 69, 70, 71, 72, 73] μ66) x3).bind fun q67 => (bd (put [74, 75, 76, 67, 68, 69, 70, 71, 72, 73] μ66 q67.1) fun μ68 => (f_X11_voice_L141 μ68 q67.2)) else (if x2 = (1 : Int32) then (f_X10_leans_k5 (sub [74, 75, 76, 67, 68, 69, 70, 71, 72, 73] μ66) x3).bind fun q69 => (bd (put [74, 75, 76, 67, 68, 69, 70, 71, 72, 73] μ66 q69.1) fun μ70 => (f_X11_voice_L141 μ70 q69.2)) else (if x2 = (2 : Int32) then (f_X7_sways_k5 (sub [74, 75, 76, 67, 68, 69, 70, 71, 72, 73] μ66) x3).bind fun q71 => (bd (put [74, 75, 76, 67, 68, 69, 70, 71, 72, 73] μ66 q71.1) fun μ72 => (f_X11_voice_L141 μ72 q71.2)) else (f_X7_parts_k5 (sub [74, 75, 76, 67, 68, 69, 70, 71, 72, 73] μ66) x3).bind fun q73 => (bd (put [74, 75, 76, 67, 68, 69, 70, 71, 72, 73] μ66 q73.1) fun μ74 => (f_X11_voice_L141 μ74 q73.2))))))) else none) else (if q4.2 = 21 then (if inb x1 9 = true then (f_X6_starts (sub [74, 75, 76, 67, 68, 69, 70, 71, 72, 73] μ5) x1 (μ5 25 x1.toNatClampNeg)).bind fun q76 => (bd (put [74, 75, 76, 67, 68, 69, 70, 71, 72, 73] μ5 q76) fun μ77 => ((if x2 = (0 : Int32) then (f_X9_holds_k6 (sub [74, 75, 76, 67, 68, 69, 70, 71, 72, 73] μ77) x3).bind fun q78 => (bd (put [74, 75, 76, 67, 68, 69, 70, 71, 72, 73] μ77 q78.1) fun μ79 => (f_X11_voice_L141 μ79 q78.2)) else (if x2 = (1 : Int32) then (f_X9_leans_k6 (sub [74, 75, 76, 67, 68, 69, 70, 71, 72, 73] μ77) x3).bind fun q80 => (bd (put [74, 75, 76, 67, 68, 69, 70, 71, 72, 73] μ77 q80.1) fun μ81 => (f_X11_voice_L141 μ81 q80.2)) else (if x2 = (2 : Int32) then (f_X7_sways_k6 (sub [74, 75, 76, 67, 68, 69, 70, 71, 72, 73] μ77) x3).bind fun q82 => (bd (put [74, 75, 76, 67, 68, 69, 70, 71, 72, 73] μ77 q82.1) fun μ83 => (f_X11_voice_L141 μ83 q82.2)) else (f_X7_parts_k6 (sub [74, 75, 76, 67, 68, 69, 70, 71, 72, 73] μ77) x3).bind fun q84 => (bd (put [74, 75, 76, 67, 68, 69, 70, 71, 72, 73] μ77 q84.1) fun μ85 => (f_X11_voice_L141 μ85 q84.2))))))) else none) else none)))))))))))))
set_option maxHeartbeats 4000000 in
set_option maxRecDepth 20000 in
theorem c_X11_voice (E : Ev) (h : Nat → Nat) (g : Nat → Option Nat) {μ : Mem} {x1 : Int32} {x2 : Int32} {x3 : Int32} {r : (Mem × Int32)} (hf : f_X11_voice μ x1 x2 x3 = some r) : Ct E yX11_voice cX11_voice 6 (some .int) (rmOf 7 153) (wX E h g μ) (wX E h g r.1) [.ref (h 0), .int x1, .int x2, .int x3] (some (.int r.2)) := by
  refine ct_start RX11 2 (by decide) rfl (Nat.le_of_ble_eq_true rfl) ?_
  intro p l e s m args below meth c A Q X hr hlk hQ
  have lab141 : ∀ (μ : Mem) (x5 : Int32), f_X11_voice_L141 μ x5 = some r → J p l e (rmOf 7 153) s m args below meth c E A 6 Q (wX E h g μ) [some (.ref (h 0)), none, none, none, none, some (.int x5)] 141 [] := by
    intro  μ x5 hf
    rw [f_X11_voice_L141] at hf
    refine j_aload_n X dX11_voice_141 rfl rfl ?_
    refine j_get (C := RX11) (T := TX11) (N := 10) X iX11 0 (wX_0 ..) rfl 4 (by decide) k_314 rfl rfl dX11_voice_142 ?_
    refine j_get (C := RX6) (T := TX6) (N := 7) X iX6 74 (wX_74 ..) rfl 2 (by decide) k_286 rfl rfl dX11_voice_145 ?_
    refine j_if_eq (tgt := 158) X dX11_voice_148 (by decide) (fun c_148 => ?_) (fun c_148 => ?_)
    · replace hf := (if_pos c_148).symm.trans hf
      refine j_aload_n X dX11_voice_158 rfl rfl ?_
      refine j_get (C := RX11) (T := TX11) (N := 10) X iX11 0 (wX_0 ..) rfl 4 (by decide) k_314 rfl rfl dX11_voice_159 ?_
      obtain ⟨q11, g_q11, hf⟩ := ob_t hf
      obtain ⟨μ12, e_μ12, hf⟩ := bd_e hf
      refine j_callV X [74, 75, 76, 67, 68, 69, 70, 71, 72, 73] 0 (c_X6_keep E (fun j => h (List.getD [74, 75, 76, 67, 68, 69, 70, 71, 72, 73] j 0)) (fun j => g (List.getD [] j 0)) g_q11) (cut_wX_wV_74_75_76_c ..) rfl rfl (ws' := (wX E h g μ12)) (by rw [e_μ12]; exact cut_wX_wV_74_75_76_w ..) (wV_0 ..) rfl k_826 k_827 k_828 k_79 k_829 (⟨rfl, rfl⟩) hdV_X6_keep ⟨Nat.le_of_ble_eq_true rfl, Nat.le_of_ble_eq_true rfl⟩ rfl (Nat.le_of_ble_eq_true rfl) rfl dX11_voice_162 ?_
      refine j_iload X dX11_voice_165 rfl ?_
      obtain rfl := Option.some.inj hf
      exact j_iret X hr hlk rfl dX11_voice_167 hQ
    · replace hf := (if_neg c_148).symm.trans hf
      refine j_aload_n X dX11_voice_151 rfl rfl ?_
      refine j_bipush (v := (6 : Int32)) X dX11_voice_152 (by decide) ?_
      obtain ⟨q13, g_q13, hf⟩ := ob_t hf
      refine j_callV X [0, 1, 2, 3, 4, 5, 6, 7, 8, 9, 10, 11, 12, 13, 14, 15, 16, 17, 18, 19, 20, 21, 22, 23, 24, 25, 26, 27, 28, 29, 30, 31, 32, 33, 34, 35, 36, 37, 38, 39, 40, 41, 42, 43, 44, 45, 46, 47, 48, 49, 50, 51, 52, 53, 54, 55, 56, 57, 58, 59, 60, 61, 62, 63, 64, 65, 66, 67, 68, 69, 70, 71, 72, 73, 74, 75, 76, 77, 78, 79, 80, 81, 82, 83, 84] 0 (c_X11_fails E h g g_q13) (cut_wX_wX_c ..) rfl rfl (ws' := (wX E h g q13.1)) (cut_wX_wX_w ..) (wX_0 ..) rfl k_351 k_353 k_0 k_68 k_354 (⟨rfl, rfl⟩) hdV_X11_fails ⟨Nat.le_of_ble_eq_true rfl, Nat.le_of_ble_eq_true rfl⟩ rfl (Nat.le_of_ble_eq_true rfl) rfl dX11_voice_154 ?_
      obtain rfl := Option.some.inj hf
      exact j_iret X hr hlk rfl dX11_voice_157 hQ
  rw [f_X11_voice] at hf
  refine j_iload_n X dX11_voice_0 rfl rfl ?_
  obtain ⟨q1, g_q1, hf⟩ := ob_t hf
  refine j_callS X [] (c_X11_isStander E g_q1) rfl rfl rfl (ws' := (wX E h g μ)) rfl k_345 k_346 k_68 k_347 (⟨rfl, rfl⟩) hdS_X11_isStander ⟨Nat.le_of_ble_eq_true rfl, Nat.le_of_ble_eq_true rfl⟩ rfl (Nat.le_of_ble_eq_true rfl) rfl dX11_voice_1 ?_
  refine j_if_eq (tgt := 16) X dX11_voice_4 (by decide) (fun c_4 => ?_) (fun c_4 => ?_)
  · replace hf := (if_pos c_4).symm.trans hf
    refine j_aload_n X dX11_voice_16 rfl rfl ?_
    refine j_iconst (v := (1 : Int32)) X dX11_voice_17 (by decide) ?_
    obtain ⟨q2, g_q2, hf⟩ := ob_t hf
    refine j_callV X [0, 1, 2, 3, 4, 5, 6, 7, 8, 9, 10, 11, 12, 13, 14, 15, 16, 17, 18, 19, 20, 21, 22, 23, 24, 25, 26, 27, 28, 29, 30, 31, 32, 33, 34, 35, 36, 37, 38, 39, 40, 41, 42, 43, 44, 45, 46, 47, 48, 49, 50, 51, 52, 53, 54, 55, 56, 57, 58, 59, 60, 61, 62, 63, 64, 65, 66, 67, 68, 69, 70, 71, 72, 73, 74, 75, 76, 77, 78, 79, 80, 81, 82, 83, 84] 0 (c_X11_fails E h g g_q2) (cut_wX_wX_c ..) rfl rfl (ws' := (wX E h g q2.1)) (cut_wX_wX_w ..) (wX_0 ..) rfl k_351 k_353 k_0 k_68 k_354 (⟨rfl, rfl⟩) hdV_X11_fails ⟨Nat.le_of_ble_eq_true rfl, Nat.le_of_ble_eq_true rfl⟩ rfl (Nat.le_of_ble_eq_true rfl) rfl dX11_voice_18 ?_
    obtain rfl := Option.some.inj hf
    exact j_iret X hr hlk rfl dX11_voice_21 hQ
  · replace hf := (if_neg c_4).symm.trans hf
    refine j_iload_n X dX11_voice_7 rfl rfl ?_
    refine j_iconst (v := (0 : Int32)) X dX11_voice_8 (by decide) ?_
    refine j_iconst (v := (3 : Int32)) X dX11_voice_9 (by decide) ?_
    obtain ⟨q3, g_q3, hf⟩ := ob_t hf
    refine j_callS X [] (c_X11_within E g_q3) rfl rfl rfl (ws' := (wX E h g μ)) rfl k_348 k_349 k_68 k_350 (⟨rfl, rfl⟩) hdS_X11_within ⟨Nat.le_of_ble_eq_true rfl, Nat.le_of_ble_eq_true rfl⟩ rfl (Nat.le_of_ble_eq_true rfl) rfl dX11_voice_10 ?_
    refine j_if_ne (tgt := 22) X dX11_voice_13 (by decide) (fun c_13 => ?_) (fun c_13 => ?_)
    · replace hf := (if_neg c_13).symm.trans hf
      refine j_aload_n X dX11_voice_22 rfl rfl ?_
      refine j_get (C := RX11) (T := TX11) (N := 10) X iX11 0 (wX_0 ..) rfl 0 (by decide) k_310 rfl rfl dX11_voice_23 ?_
      refine j_get (C := RX5) (T := TX5) (N := 8) X iX5 1 (wX_1 ..) rfl 2 (by decide) k_239 rfl rfl dX11_voice_26 ?_
      refine j_iload_n X dX11_voice_29 rfl rfl ?_
      obtain ⟨q4, g_q4, hf⟩ := ob_t hf
      obtain ⟨μ5, e_μ5, hf⟩ := bd_e hf
      refine j_callV X [23, 24, 25, 26, 27, 28, 7, 8, 9, 10, 11, 12, 13, 14, 66, 67, 68, 69, 70, 71, 72, 73] 0 (c_X4_kindOf E (fun j => h (List.getD [23, 24, 25, 26, 27, 28, 7, 8, 9, 10, 11, 12, 13, 14, 66, 67, 68, 69, 70, 71, 72, 73] j 0)) (fun j => g (List.getD [0, 1] j 0)) g_q4) (cut_wX_wR_23_24_25_c ..) rfl rfl (ws' := (wX E h g μ5)) (by rw [e_μ5]; exact cut_wX_wR_23_24_25_w ..) (wR_0 ..) rfl k_446 k_365 k_366 k_78 k_367 (⟨rfl, rfl⟩) hdV_X4_kindOf ⟨Nat.le_of_ble_eq_true rfl, Nat.le_of_ble_eq_true rfl⟩ rfl (Nat.le_of_ble_eq_true rfl) rfl dX11_voice_30 ?_
      by_cases n_30_0 : q4.2 = 15
      · replace hf := (if_pos n_30_0).symm.trans hf
        refine j_stk (st' := [.ref (h 67)]) (by rw [n_30_0]; rfl) ?_
        refine j_astore4 X dX11_voice_33 (by decide) rfl ?_
        refine j_aload_n X dX11_voice_35 rfl rfl ?_
        refine j_get (C := RX11) (T := TX11) (N := 10) X iX11 0 (wX_0 ..) rfl 4 (by decide) k_314 rfl rfl dX11_voice_36 ?_
        refine j_iload_n X dX11_voice_39 rfl rfl ?_
        refine j_aload_n X dX11_voice_40 rfl rfl ?_
        refine j_get (C := RX11) (T := TX11) (N := 10) X iX11 0 (wX_0 ..) rfl 0 (by decide) k_310 rfl rfl dX11_voice_41 ?_
        refine j_get (C := RX5) (T := TX5) (N := 8) X iX5 1 (wX_1 ..) rfl 2 (by decide) k_239 rfl rfl dX11_voice_44 ?_
        refine j_get (C := RX4) (T := TX4) (N := 10) X iX4 23 (wX_23 ..) rfl 1 (by decide) k_195 rfl rfl dX11_voice_47 ?_
        refine j_iload_n X dX11_voice_50 rfl rfl ?_
        obtain ⟨c6, hf⟩ := oi_in hf
        refine j_iald X 25 (wX_25 ..) c6 dX11_voice_51 ?_
        obtain ⟨q7, g_q7, hf⟩ := ob_t hf
        obtain ⟨μ8, e_μ8, hf⟩ := bd_e hf
        refine j_callV X [74, 75, 76, 67, 68, 69, 70, 71, 72, 73] 0 (c_X6_starts E (fun j => h (List.getD [74, 75, 76, 67, 68, 69, 70, 71, 72, 73] j 0)) (fun j => g (List.getD [] j 0)) g_q7) (cut_wX_wV_74_75_76_c ..) rfl rfl (ws' := (wX E h g μ8)) (by rw [e_μ8]; exact cut_wX_wV_74_75_76_w ..) (wV_0 ..) rfl k_733 k_734 k_735 k_79 k_736 (⟨rfl, rfl⟩) hdV_X6_starts ⟨Nat.le_of_ble_eq_true rfl, Nat.le_of_ble_eq_true rfl⟩ rfl (Nat.le_of_ble_eq_true rfl) rfl dX11_voice_52 ?_
        refine j_iload_n X dX11_voice_55 rfl rfl ?_
        by_cases n_56_0 : x2 = (0 : Int32)
        · replace hf := (if_pos n_56_0).symm.trans hf
          refine j_tsI (k := (0 : Int32)) (tgt := 84) X n_56_0 dX11_voice_56 (by decide) (by decide) rfl (by decide) ?_
          refine j_aload X dX11_voice_84 rfl ?_
          refine j_aload_n X dX11_voice_86 rfl rfl ?_
          refine j_get (C := RX11) (T := TX11) (N := 10) X iX11 0 (wX_0 ..) rfl 4 (by decide) k_314 rfl rfl dX11_voice_87 ?_
          refine j_iload_n X dX11_voice_90 rfl rfl ?_
          obtain ⟨q9, g_q9, hf⟩ := ob_t hf
          obtain ⟨μ10, e_μ10, hf⟩ := bd_e hf
          refine j_callV X [74, 75, 76, 67, 68, 69, 70, 71, 72, 73] 3 (c_X7_holds_k0 E (fun j => h (List.getD [74, 75, 76, 67, 68, 69, 70, 71, 72, 73] j 0)) (fun j => g (List.getD [] j 0)) g_q9) (cut_wX_wV_74_75_76_c ..) rfl rfl (ws' := (wX E h g μ10)) (by rw [e_μ10]; exact cut_wX_wV_74_75_76_w ..) (wV_3 ..) rfl k_737 k_738 k_739 k_69 k_761 (⟨rfl, rfl⟩) hdV_X7_holds ⟨Nat.le_of_ble_eq_true rfl, Nat.le_of_ble_eq_true rfl⟩ rfl (Nat.le_of_ble_eq_true rfl) rfl dX11_voice_91 ?_
          refine j_istore5 X dX11_voice_94 (by decide) rfl ?_
          refine j_goto (tgt := 141) X dX11_voice_96 (by decide) ?_
          refine j_keep [true, false, false, false, false, true] rfl ?_
          exact lab141 _ _ hf
        · replace hf := (if_neg n_56_0).symm.trans hf
          by_cases n_56_1 : x2 = (1 : Int32)
          · replace hf := (if_pos n_56_1).symm.trans hf
            refine j_tsI (k := (1 : Int32)) (tgt := 99) X n_56_1 dX11_voice_56 (by decide) (by decide) rfl (by decide) ?_
            refine j_aload X dX11_voice_99 rfl ?_
            refine j_aload_n X dX11_voice_101 rfl rfl ?_
            refine j_get (C := RX11) (T := TX11) (N := 10) X iX11 0 (wX_0 ..) rfl 4 (by decide) k_314 rfl rfl dX11_voice_102 ?_
            refine j_iload_n X dX11_voice_105 rfl rfl ?_
            obtain ⟨q14, g_q14, hf⟩ := ob_t hf
            obtain ⟨μ15, e_μ15, hf⟩ := bd_e hf
            refine j_callV X [74, 75, 76, 67, 68, 69, 70, 71, 72, 73] 3 (c_X7_leans_k0 E (fun j => h (List.getD [74, 75, 76, 67, 68, 69, 70, 71, 72, 73] j 0)) (fun j => g (List.getD [] j 0)) g_q14) (cut_wX_wV_74_75_76_c ..) rfl rfl (ws' := (wX E h g μ15)) (by rw [e_μ15]; exact cut_wX_wV_74_75_76_w ..) (wV_3 ..) rfl k_763 k_764 k_765 k_69 k_784 (⟨rfl, rfl⟩) hdV_X7_leans ⟨Nat.le_of_ble_eq_true rfl, Nat.le_of_ble_eq_true rfl⟩ rfl (Nat.le_of_ble_eq_true rfl) rfl dX11_voice_106 ?_
            refine j_istore5 X dX11_voice_109 (by decide) rfl ?_
            refine j_goto (tgt := 141) X dX11_voice_111 (by decide) ?_
            refine j_keep [true, false, false, false, false, true] rfl ?_
            exact lab141 _ _ hf
          · replace hf := (if_neg n_56_1).symm.trans hf
            by_cases n_56_2 : x2 = (2 : Int32)
            · replace hf := (if_pos n_56_2).symm.trans hf
              refine j_tsI (k := (2 : Int32)) (tgt := 114) X n_56_2 dX11_voice_56 (by decide) (by decide) rfl (by decide) ?_
              refine j_aload X dX11_voice_114 rfl ?_
              refine j_aload_n X dX11_voice_116 rfl rfl ?_
              refine j_get (C := RX11) (T := TX11) (N := 10) X iX11 0 (wX_0 ..) rfl 4 (by decide) k_314 rfl rfl dX11_voice_117 ?_
              refine j_iload_n X dX11_voice_120 rfl rfl ?_
              obtain ⟨q16, g_q16, hf⟩ := ob_t hf
              obtain ⟨μ17, e_μ17, hf⟩ := bd_e hf
              refine j_callV X [74, 75, 76, 67, 68, 69, 70, 71, 72, 73] 3 (c_X7_sways_k0 E (fun j => h (List.getD [74, 75, 76, 67, 68, 69, 70, 71, 72, 73] j 0)) (fun j => g (List.getD [] j 0)) g_q16) (cut_wX_wV_74_75_76_c ..) rfl rfl (ws' := (wX E h g μ17)) (by rw [e_μ17]; exact cut_wX_wV_74_75_76_w ..) (wV_3 ..) rfl k_786 k_787 k_788 k_69 k_805 (⟨rfl, rfl⟩) hdV_X7_sways ⟨Nat.le_of_ble_eq_true rfl, Nat.le_of_ble_eq_true rfl⟩ rfl (Nat.le_of_ble_eq_true rfl) rfl dX11_voice_121 ?_
              refine j_istore5 X dX11_voice_124 (by decide) rfl ?_
              refine j_goto (tgt := 141) X dX11_voice_126 (by decide) ?_
              refine j_keep [true, false, false, false, false, true] rfl ?_
              exact lab141 _ _ hf
            · replace hf := (if_neg n_56_2).symm.trans hf
              refine j_tsD (tgt := 129) X [0, 1, 2] (List.forall_mem_cons.mpr ⟨lv_neT n_56_0 (a := 0) rfl, List.forall_mem_cons.mpr ⟨lv_neT n_56_1 (a := 1) rfl, List.forall_mem_cons.mpr ⟨lv_neT n_56_2 (a := 2) rfl, fun _ h => by cases h⟩⟩⟩) (by decide) (by decide) dX11_voice_56 (by decide) ?_
              refine j_aload X dX11_voice_129 rfl ?_
              refine j_aload_n X dX11_voice_131 rfl rfl ?_
              refine j_get (C := RX11) (T := TX11) (N := 10) X iX11 0 (wX_0 ..) rfl 4 (by decide) k_314 rfl rfl dX11_voice_132 ?_
              refine j_iload_n X dX11_voice_135 rfl rfl ?_
              obtain ⟨q18, g_q18, hf⟩ := ob_t hf
              obtain ⟨μ19, e_μ19, hf⟩ := bd_e hf
              refine j_callV X [74, 75, 76, 67, 68, 69, 70, 71, 72, 73] 3 (c_X7_parts_k0 E (fun j => h (List.getD [74, 75, 76, 67, 68, 69, 70, 71, 72, 73] j 0)) (fun j => g (List.getD [] j 0)) g_q18) (cut_wX_wV_74_75_76_c ..) rfl rfl (ws' := (wX E h g μ19)) (by rw [e_μ19]; exact cut_wX_wV_74_75_76_w ..) (wV_3 ..) rfl k_807 k_808 k_809 k_69 k_825 (⟨rfl, rfl⟩) hdV_X7_parts ⟨Nat.le_of_ble_eq_true rfl, Nat.le_of_ble_eq_true rfl⟩ rfl (Nat.le_of_ble_eq_true rfl) rfl dX11_voice_136 ?_
              refine j_istore5 X dX11_voice_139 (by decide) rfl ?_
              refine j_keep [true, false, false, false, false, true] rfl ?_
              exact lab141 _ _ hf
      · replace hf := (if_neg n_30_0).symm.trans hf
        by_cases n_30_1 : q4.2 = 16
        · replace hf := (if_pos n_30_1).symm.trans hf
          refine j_stk (st' := [.ref (h 68)]) (by rw [n_30_1]; rfl) ?_
          refine j_astore4 X dX11_voice_33 (by decide) rfl ?_
          refine j_aload_n X dX11_voice_35 rfl rfl ?_
          refine j_get (C := RX11) (T := TX11) (N := 10) X iX11 0 (wX_0 ..) rfl 4 (by decide) k_314 rfl rfl dX11_voice_36 ?_
          refine j_iload_n X dX11_voice_39 rfl rfl ?_
          refine j_aload_n X dX11_voice_40 rfl rfl ?_
          refine j_get (C := RX11) (T := TX11) (N := 10) X iX11 0 (wX_0 ..) rfl 0 (by decide) k_310 rfl rfl dX11_voice_41 ?_
          refine j_get (C := RX5) (T := TX5) (N := 8) X iX5 1 (wX_1 ..) rfl 2 (by decide) k_239 rfl rfl dX11_voice_44 ?_
          refine j_get (C := RX4) (T := TX4) (N := 10) X iX4 23 (wX_23 ..) rfl 1 (by decide) k_195 rfl rfl dX11_voice_47 ?_
          refine j_iload_n X dX11_voice_50 rfl rfl ?_
          obtain ⟨c20, hf⟩ := oi_in hf
          refine j_iald X 25 (wX_25 ..) c20 dX11_voice_51 ?_
          obtain ⟨q21, g_q21, hf⟩ := ob_t hf
          obtain ⟨μ22, e_μ22, hf⟩ := bd_e hf
          refine j_callV X [74, 75, 76, 67, 68, 69, 70, 71, 72, 73] 0 (c_X6_starts E (fun j => h (List.getD [74, 75, 76, 67, 68, 69, 70, 71, 72, 73] j 0)) (fun j => g (List.getD [] j 0)) g_q21) (cut_wX_wV_74_75_76_c ..) rfl rfl (ws' := (wX E h g μ22)) (by rw [e_μ22]; exact cut_wX_wV_74_75_76_w ..) (wV_0 ..) rfl k_733 k_734 k_735 k_79 k_736 (⟨rfl, rfl⟩) hdV_X6_starts ⟨Nat.le_of_ble_eq_true rfl, Nat.le_of_ble_eq_true rfl⟩ rfl (Nat.le_of_ble_eq_true rfl) rfl dX11_voice_52 ?_
          refine j_iload_n X dX11_voice_55 rfl rfl ?_
          by_cases n_56_0 : x2 = (0 : Int32)
          · replace hf := (if_pos n_56_0).symm.trans hf
            refine j_tsI (k := (0 : Int32)) (tgt := 84) X n_56_0 dX11_voice_56 (by decide) (by decide) rfl (by decide) ?_
            refine j_aload X dX11_voice_84 rfl ?_
            refine j_aload_n X dX11_voice_86 rfl rfl ?_
            refine j_get (C := RX11) (T := TX11) (N := 10) X iX11 0 (wX_0 ..) rfl 4 (by decide) k_314 rfl rfl dX11_voice_87 ?_
            refine j_iload_n X dX11_voice_90 rfl rfl ?_
            obtain ⟨q23, g_q23, hf⟩ := ob_t hf
            obtain ⟨μ24, e_μ24, hf⟩ := bd_e hf
            refine j_callO (n := 2) (x := ⟨RX7, "holds", "(LStandStill$Speaker;I)I"⟩) (owner := RX7) X [74, 75, 76, 67, 68, 69, 70, 71, 72, 73] 4 (c_X0_holds_k1 E (fun j => h (List.getD [74, 75, 76, 67, 68, 69, 70, 71, 72, 73] j 0)) (fun j => g (List.getD [] j 0)) g_q23) (cut_wX_wV_74_75_76_c ..) rfl rfl (ws' := (wX E h g μ24)) (by rw [e_μ24]; exact cut_wX_wV_74_75_76_w ..) (wV_4 ..) rfl k_737 k_740 k_738 k_741 k_742 k_70 k_743 (⟨rfl, rfl⟩) k_761 (by decide +kernel) ⟨Nat.le_of_ble_eq_true rfl, Nat.le_of_ble_eq_true rfl⟩ rfl (Nat.le_of_ble_eq_true rfl) rfl dX11_voice_91 ?_
            refine j_istore5 X dX11_voice_94 (by decide) rfl ?_
            refine j_goto (tgt := 141) X dX11_voice_96 (by decide) ?_
            refine j_keep [true, false, false, false, false, true] rfl ?_
            exact lab141 _ _ hf
          · replace hf := (if_neg n_56_0).symm.trans hf
            by_cases n_56_1 : x2 = (1 : Int32)
            · replace hf := (if_pos n_56_1).symm.trans hf
              refine j_tsI (k := (1 : Int32)) (tgt := 99) X n_56_1 dX11_voice_56 (by decide) (by decide) rfl (by decide) ?_
              refine j_aload X dX11_voice_99 rfl ?_
              refine j_aload_n X dX11_voice_101 rfl rfl ?_
              refine j_get (C := RX11) (T := TX11) (N := 10) X iX11 0 (wX_0 ..) rfl 4 (by decide) k_314 rfl rfl dX11_voice_102 ?_
              refine j_iload_n X dX11_voice_105 rfl rfl ?_
              obtain ⟨q25, g_q25, hf⟩ := ob_t hf
              obtain ⟨μ26, e_μ26, hf⟩ := bd_e hf
              refine j_callU (n := 2) (x := ⟨RX7, "leans", "(LStandStill$Speaker;I)I"⟩) (owner := RX7) X [74, 75, 76, 67, 68, 69, 70, 71, 72, 73] 4 (c_X7_leans_k1 E (fun j => h (List.getD [74, 75, 76, 67, 68, 69, 70, 71, 72, 73] j 0)) (fun j => g (List.getD [] j 0)) g_q25) (cut_wX_wV_74_75_76_c ..) rfl rfl (ws' := (wX E h g μ26)) (by rw [e_μ26]; exact cut_wX_wV_74_75_76_w ..) (wV_4 ..) rfl k_763 k_766 k_767 k_764 k_69 k_784 (⟨rfl, rfl⟩) rfl (by decide +kernel) ⟨Nat.le_of_ble_eq_true rfl, Nat.le_of_ble_eq_true rfl⟩ rfl (Nat.le_of_ble_eq_true rfl) rfl dX11_voice_106 ?_
              refine j_istore5 X dX11_voice_109 (by decide) rfl ?_
              refine j_goto (tgt := 141) X dX11_voice_111 (by decide) ?_
              refine j_keep [true, false, false, false, false, true] rfl ?_
              exact lab141 _ _ hf
            · replace hf := (if_neg n_56_1).symm.trans hf
              by_cases n_56_2 : x2 = (2 : Int32)
              · replace hf := (if_pos n_56_2).symm.trans hf
                refine j_tsI (k := (2 : Int32)) (tgt := 114) X n_56_2 dX11_voice_56 (by decide) (by decide) rfl (by decide) ?_
                refine j_aload X dX11_voice_114 rfl ?_
                refine j_aload_n X dX11_voice_116 rfl rfl ?_
                refine j_get (C := RX11) (T := TX11) (N := 10) X iX11 0 (wX_0 ..) rfl 4 (by decide) k_314 rfl rfl dX11_voice_117 ?_
                refine j_iload_n X dX11_voice_120 rfl rfl ?_
                obtain ⟨q27, g_q27, hf⟩ := ob_t hf
                obtain ⟨μ28, e_μ28, hf⟩ := bd_e hf
                refine j_callU (n := 2) (x := ⟨RX7, "sways", "(LStandStill$Speaker;I)I"⟩) (owner := RX7) X [74, 75, 76, 67, 68, 69, 70, 71, 72, 73] 4 (c_X7_sways_k1 E (fun j => h (List.getD [74, 75, 76, 67, 68, 69, 70, 71, 72, 73] j 0)) (fun j => g (List.getD [] j 0)) g_q27) (cut_wX_wV_74_75_76_c ..) rfl rfl (ws' := (wX E h g μ28)) (by rw [e_μ28]; exact cut_wX_wV_74_75_76_w ..) (wV_4 ..) rfl k_786 k_789 k_790 k_787 k_69 k_805 (⟨rfl, rfl⟩) rfl (by decide +kernel) ⟨Nat.le_of_ble_eq_true rfl, Nat.le_of_ble_eq_true rfl⟩ rfl (Nat.le_of_ble_eq_true rfl) rfl dX11_voice_121 ?_
                refine j_istore5 X dX11_voice_124 (by decide) rfl ?_
                refine j_goto (tgt := 141) X dX11_voice_126 (by decide) ?_
                refine j_keep [true, false, false, false, false, true] rfl ?_
                exact lab141 _ _ hf
              · replace hf := (if_neg n_56_2).symm.trans hf
                refine j_tsD (tgt := 129) X [0, 1, 2] (List.forall_mem_cons.mpr ⟨lv_neT n_56_0 (a := 0) rfl, List.forall_mem_cons.mpr ⟨lv_neT n_56_1 (a := 1) rfl, List.forall_mem_cons.mpr ⟨lv_neT n_56_2 (a := 2) rfl, fun _ h => by cases h⟩⟩⟩) (by decide) (by decide) dX11_voice_56 (by decide) ?_
                refine j_aload X dX11_voice_129 rfl ?_
                refine j_aload_n X dX11_voice_131 rfl rfl ?_
                refine j_get (C := RX11) (T := TX11) (N := 10) X iX11 0 (wX_0 ..) rfl 4 (by decide) k_314 rfl rfl dX11_voice_132 ?_
                refine j_iload_n X dX11_voice_135 rfl rfl ?_
                obtain ⟨q29, g_q29, hf⟩ := ob_t hf
                obtain ⟨μ30, e_μ30, hf⟩ := bd_e hf
                refine j_callO (n := 2) (x := ⟨RX7, "parts", "(LStandStill$Speaker;I)I"⟩) (owner := RX7) X [74, 75, 76, 67, 68, 69, 70, 71, 72, 73] 4 (c_X0_parts_k1 E (fun j => h (List.getD [74, 75, 76, 67, 68, 69, 70, 71, 72, 73] j 0)) (fun j => g (List.getD [] j 0)) g_q29) (cut_wX_wV_74_75_76_c ..) rfl rfl (ws' := (wX E h g μ30)) (by rw [e_μ30]; exact cut_wX_wV_74_75_76_w ..) (wV_4 ..) rfl k_807 k_810 k_808 k_811 k_812 k_70 k_813 (⟨rfl, rfl⟩) k_825 (by decide +kernel) ⟨Nat.le_of_ble_eq_true rfl, Nat.le_of_ble_eq_true rfl⟩ rfl (Nat.le_of_ble_eq_true rfl) rfl dX11_voice_136 ?_
                refine j_istore5 X dX11_voice_139 (by decide) rfl ?_
                refine j_keep [true, false, false, false, false, true] rfl ?_
                exact lab141 _ _ hf
        · replace hf := (if_neg n_30_1).symm.trans hf
          by_cases n_30_2 : q4.2 = 17
          · replace hf := (if_pos n_30_2).symm.trans hf
            refine j_stk (st' := [.ref (h 69)]) (by rw [n_30_2]; rfl) ?_
            refine j_astore4 X dX11_voice_33 (by decide) rfl ?_
            refine j_aload_n X dX11_voice_35 rfl rfl ?_
            refine j_get (C := RX11) (T := TX11) (N := 10) X iX11 0 (wX_0 ..) rfl 4 (by decide) k_314 rfl rfl dX11_voice_36 ?_
            refine j_iload_n X dX11_voice_39 rfl rfl ?_
            refine j_aload_n X dX11_voice_40 rfl rfl ?_
            refine j_get (C := RX11) (T := TX11) (N := 10) X iX11 0 (wX_0 ..) rfl 0 (by decide) k_310 rfl rfl dX11_voice_41 ?_
            refine j_get (C := RX5) (T := TX5) (N := 8) X iX5 1 (wX_1 ..) rfl 2 (by decide) k_239 rfl rfl dX11_voice_44 ?_
            refine j_get (C := RX4) (T := TX4) (N := 10) X iX4 23 (wX_23 ..) rfl 1 (by decide) k_195 rfl rfl dX11_voice_47 ?_
            refine j_iload_n X dX11_voice_50 rfl rfl ?_
            obtain ⟨c31, hf⟩ := oi_in hf
            refine j_iald X 25 (wX_25 ..) c31 dX11_voice_51 ?_
            obtain ⟨q32, g_q32, hf⟩ := ob_t hf
            obtain ⟨μ33, e_μ33, hf⟩ := bd_e hf
            refine j_callV X [74, 75, 76, 67, 68, 69, 70, 71, 72, 73] 0 (c_X6_starts E (fun j => h (List.getD [74, 75, 76, 67, 68, 69, 70, 71, 72, 73] j 0)) (fun j => g (List.getD [] j 0)) g_q32) (cut_wX_wV_74_75_76_c ..) rfl rfl (ws' := (wX E h g μ33)) (by rw [e_μ33]; exact cut_wX_wV_74_75_76_w ..) (wV_0 ..) rfl k_733 k_734 k_735 k_79 k_736 (⟨rfl, rfl⟩) hdV_X6_starts ⟨Nat.le_of_ble_eq_true rfl, Nat.le_of_ble_eq_true rfl⟩ rfl (Nat.le_of_ble_eq_true rfl) rfl dX11_voice_52 ?_
            refine j_iload_n X dX11_voice_55 rfl rfl ?_
            by_cases n_56_0 : x2 = (0 : Int32)
            · replace hf := (if_pos n_56_0).symm.trans hf
              refine j_tsI (k := (0 : Int32)) (tgt := 84) X n_56_0 dX11_voice_56 (by decide) (by decide) rfl (by decide) ?_
              refine j_aload X dX11_voice_84 rfl ?_
              refine j_aload_n X dX11_voice_86 rfl rfl ?_
              refine j_get (C := RX11) (T := TX11) (N := 10) X iX11 0 (wX_0 ..) rfl 4 (by decide) k_314 rfl rfl dX11_voice_87 ?_
              refine j_iload_n X dX11_voice_90 rfl rfl ?_
              obtain ⟨q34, g_q34, hf⟩ := ob_t hf
              obtain ⟨μ35, e_μ35, hf⟩ := bd_e hf
              refine j_callU (n := 2) (x := ⟨RX7, "holds", "(LStandStill$Speaker;I)I"⟩) (owner := RX7) X [74, 75, 76, 67, 68, 69, 70, 71, 72, 73] 5 (c_X7_holds_k2 E (fun j => h (List.getD [74, 75, 76, 67, 68, 69, 70, 71, 72, 73] j 0)) (fun j => g (List.getD [] j 0)) g_q34) (cut_wX_wV_74_75_76_c ..) rfl rfl (ws' := (wX E h g μ35)) (by rw [e_μ35]; exact cut_wX_wV_74_75_76_w ..) (wV_5 ..) rfl k_737 k_740 k_749 k_738 k_69 k_761 (⟨rfl, rfl⟩) rfl (by decide +kernel) ⟨Nat.le_of_ble_eq_true rfl, Nat.le_of_ble_eq_true rfl⟩ rfl (Nat.le_of_ble_eq_true rfl) rfl dX11_voice_91 ?_
              refine j_istore5 X dX11_voice_94 (by decide) rfl ?_
              refine j_goto (tgt := 141) X dX11_voice_96 (by decide) ?_
              refine j_keep [true, false, false, false, false, true] rfl ?_
              exact lab141 _ _ hf
            · replace hf := (if_neg n_56_0).symm.trans hf
              by_cases n_56_1 : x2 = (1 : Int32)
              · replace hf := (if_pos n_56_1).symm.trans hf
                refine j_tsI (k := (1 : Int32)) (tgt := 99) X n_56_1 dX11_voice_56 (by decide) (by decide) rfl (by decide) ?_
                refine j_aload X dX11_voice_99 rfl ?_
                refine j_aload_n X dX11_voice_101 rfl rfl ?_
                refine j_get (C := RX11) (T := TX11) (N := 10) X iX11 0 (wX_0 ..) rfl 4 (by decide) k_314 rfl rfl dX11_voice_102 ?_
                refine j_iload_n X dX11_voice_105 rfl rfl ?_
                obtain ⟨q36, g_q36, hf⟩ := ob_t hf
                obtain ⟨μ37, e_μ37, hf⟩ := bd_e hf
                refine j_callO (n := 2) (x := ⟨RX7, "leans", "(LStandStill$Speaker;I)I"⟩) (owner := RX7) X [74, 75, 76, 67, 68, 69, 70, 71, 72, 73] 5 (c_X2_leans_k2 E (fun j => h (List.getD [74, 75, 76, 67, 68, 69, 70, 71, 72, 73] j 0)) (fun j => g (List.getD [] j 0)) g_q36) (cut_wX_wV_74_75_76_c ..) rfl rfl (ws' := (wX E h g μ37)) (by rw [e_μ37]; exact cut_wX_wV_74_75_76_w ..) (wV_5 ..) rfl k_763 k_766 k_764 k_768 k_769 k_71 k_770 (⟨rfl, rfl⟩) k_784 (by decide +kernel) ⟨Nat.le_of_ble_eq_true rfl, Nat.le_of_ble_eq_true rfl⟩ rfl (Nat.le_of_ble_eq_true rfl) rfl dX11_voice_106 ?_
                refine j_istore5 X dX11_voice_109 (by decide) rfl ?_
                refine j_goto (tgt := 141) X dX11_voice_111 (by decide) ?_
                refine j_keep [true, false, false, false, false, true] rfl ?_
                exact lab141 _ _ hf
              · replace hf := (if_neg n_56_1).symm.trans hf
                by_cases n_56_2 : x2 = (2 : Int32)
                · replace hf := (if_pos n_56_2).symm.trans hf
                  refine j_tsI (k := (2 : Int32)) (tgt := 114) X n_56_2 dX11_voice_56 (by decide) (by decide) rfl (by decide) ?_
                  refine j_aload X dX11_voice_114 rfl ?_
                  refine j_aload_n X dX11_voice_116 rfl rfl ?_
                  refine j_get (C := RX11) (T := TX11) (N := 10) X iX11 0 (wX_0 ..) rfl 4 (by decide) k_314 rfl rfl dX11_voice_117 ?_
                  refine j_iload_n X dX11_voice_120 rfl rfl ?_
                  obtain ⟨q38, g_q38, hf⟩ := ob_t hf
                  obtain ⟨μ39, e_μ39, hf⟩ := bd_e hf
                  refine j_callU (n := 2) (x := ⟨RX7, "sways", "(LStandStill$Speaker;I)I"⟩) (owner := RX7) X [74, 75, 76, 67, 68, 69, 70, 71, 72, 73] 5 (c_X7_sways_k2 E (fun j => h (List.getD [74, 75, 76, 67, 68, 69, 70, 71, 72, 73] j 0)) (fun j => g (List.getD [] j 0)) g_q38) (cut_wX_wV_74_75_76_c ..) rfl rfl (ws' := (wX E h g μ39)) (by rw [e_μ39]; exact cut_wX_wV_74_75_76_w ..) (wV_5 ..) rfl k_786 k_789 k_791 k_787 k_69 k_805 (⟨rfl, rfl⟩) rfl (by decide +kernel) ⟨Nat.le_of_ble_eq_true rfl, Nat.le_of_ble_eq_true rfl⟩ rfl (Nat.le_of_ble_eq_true rfl) rfl dX11_voice_121 ?_
                  refine j_istore5 X dX11_voice_124 (by decide) rfl ?_
                  refine j_goto (tgt := 141) X dX11_voice_126 (by decide) ?_
                  refine j_keep [true, false, false, false, false, true] rfl ?_
                  exact lab141 _ _ hf
                · replace hf := (if_neg n_56_2).symm.trans hf
                  refine j_tsD (tgt := 129) X [0, 1, 2] (List.forall_mem_cons.mpr ⟨lv_neT n_56_0 (a := 0) rfl, List.forall_mem_cons.mpr ⟨lv_neT n_56_1 (a := 1) rfl, List.forall_mem_cons.mpr ⟨lv_neT n_56_2 (a := 2) rfl, fun _ h => by cases h⟩⟩⟩) (by decide) (by decide) dX11_voice_56 (by decide) ?_
                  refine j_aload X dX11_voice_129 rfl ?_
                  refine j_aload_n X dX11_voice_131 rfl rfl ?_
                  refine j_get (C := RX11) (T := TX11) (N := 10) X iX11 0 (wX_0 ..) rfl 4 (by decide) k_314 rfl rfl dX11_voice_132 ?_
                  refine j_iload_n X dX11_voice_135 rfl rfl ?_
                  obtain ⟨q40, g_q40, hf⟩ := ob_t hf
                  obtain ⟨μ41, e_μ41, hf⟩ := bd_e hf
                  refine j_callU (n := 2) (x := ⟨RX7, "parts", "(LStandStill$Speaker;I)I"⟩) (owner := RX7) X [74, 75, 76, 67, 68, 69, 70, 71, 72, 73] 5 (c_X7_parts_k2 E (fun j => h (List.getD [74, 75, 76, 67, 68, 69, 70, 71, 72, 73] j 0)) (fun j => g (List.getD [] j 0)) g_q40) (cut_wX_wV_74_75_76_c ..) rfl rfl (ws' := (wX E h g μ41)) (by rw [e_μ41]; exact cut_wX_wV_74_75_76_w ..) (wV_5 ..) rfl k_807 k_810 k_820 k_808 k_69 k_825 (⟨rfl, rfl⟩) rfl (by decide +kernel) ⟨Nat.le_of_ble_eq_true rfl, Nat.le_of_ble_eq_true rfl⟩ rfl (Nat.le_of_ble_eq_true rfl) rfl dX11_voice_136 ?_
                  refine j_istore5 X dX11_voice_139 (by decide) rfl ?_
                  refine j_keep [true, false, false, false, false, true] rfl ?_
                  exact lab141 _ _ hf
          · replace hf := (if_neg n_30_2).symm.trans hf
            by_cases n_30_3 : q4.2 = 18
            · replace hf := (if_pos n_30_3).symm.trans hf
              refine j_stk (st' := [.ref (h 70)]) (by rw [n_30_3]; rfl) ?_
              refine j_astore4 X dX11_voice_33 (by decide) rfl ?_
              refine j_aload_n X dX11_voice_35 rfl rfl ?_
              refine j_get (C := RX11) (T := TX11) (N := 10) X iX11 0 (wX_0 ..) rfl 4 (by decide) k_314 rfl rfl dX11_voice_36 ?_
              refine j_iload_n X dX11_voice_39 rfl rfl ?_
              refine j_aload_n X dX11_voice_40 rfl rfl ?_
              refine j_get (C := RX11) (T := TX11) (N := 10) X iX11 0 (wX_0 ..) rfl 0 (by decide) k_310 rfl rfl dX11_voice_41 ?_
              refine j_get (C := RX5) (T := TX5) (N := 8) X iX5 1 (wX_1 ..) rfl 2 (by decide) k_239 rfl rfl dX11_voice_44 ?_
              refine j_get (C := RX4) (T := TX4) (N := 10) X iX4 23 (wX_23 ..) rfl 1 (by decide) k_195 rfl rfl dX11_voice_47 ?_
              refine j_iload_n X dX11_voice_50 rfl rfl ?_
              obtain ⟨c42, hf⟩ := oi_in hf
              refine j_iald X 25 (wX_25 ..) c42 dX11_voice_51 ?_
              obtain ⟨q43, g_q43, hf⟩ := ob_t hf
              obtain ⟨μ44, e_μ44, hf⟩ := bd_e hf
              refine j_callV X [74, 75, 76, 67, 68, 69, 70, 71, 72, 73] 0 (c_X6_starts E (fun j => h (List.getD [74, 75, 76, 67, 68, 69, 70, 71, 72, 73] j 0)) (fun j => g (List.getD [] j 0)) g_q43) (cut_wX_wV_74_75_76_c ..) rfl rfl (ws' := (wX E h g μ44)) (by rw [e_μ44]; exact cut_wX_wV_74_75_76_w ..) (wV_0 ..) rfl k_733 k_734 k_735 k_79 k_736 (⟨rfl, rfl⟩) hdV_X6_starts ⟨Nat.le_of_ble_eq_true rfl, Nat.le_of_ble_eq_true rfl⟩ rfl (Nat.le_of_ble_eq_true rfl) rfl dX11_voice_52 ?_
              refine j_iload_n X dX11_voice_55 rfl rfl ?_
              by_cases n_56_0 : x2 = (0 : Int32)
              · replace hf := (if_pos n_56_0).symm.trans hf
                refine j_tsI (k := (0 : Int32)) (tgt := 84) X n_56_0 dX11_voice_56 (by decide) (by decide) rfl (by decide) ?_
                refine j_aload X dX11_voice_84 rfl ?_
                refine j_aload_n X dX11_voice_86 rfl rfl ?_
                refine j_get (C := RX11) (T := TX11) (N := 10) X iX11 0 (wX_0 ..) rfl 4 (by decide) k_314 rfl rfl dX11_voice_87 ?_
                refine j_iload_n X dX11_voice_90 rfl rfl ?_
                obtain ⟨q45, g_q45, hf⟩ := ob_t hf
                obtain ⟨μ46, e_μ46, hf⟩ := bd_e hf
                refine j_callU (n := 2) (x := ⟨RX7, "holds", "(LStandStill$Speaker;I)I"⟩) (owner := RX7) X [74, 75, 76, 67, 68, 69, 70, 71, 72, 73] 6 (c_X7_holds_k3 E (fun j => h (List.getD [74, 75, 76, 67, 68, 69, 70, 71, 72, 73] j 0)) (fun j => g (List.getD [] j 0)) g_q45) (cut_wX_wV_74_75_76_c ..) rfl rfl (ws' := (wX E h g μ46)) (by rw [e_μ46]; exact cut_wX_wV_74_75_76_w ..) (wV_6 ..) rfl k_737 k_740 k_755 k_738 k_69 k_761 (⟨rfl, rfl⟩) rfl (by decide +kernel) ⟨Nat.le_of_ble_eq_true rfl, Nat.le_of_ble_eq_true rfl⟩ rfl (Nat.le_of_ble_eq_true rfl) rfl dX11_voice_91 ?_
                refine j_istore5 X dX11_voice_94 (by decide) rfl ?_
                refine j_goto (tgt := 141) X dX11_voice_96 (by decide) ?_
                refine j_keep [true, false, false, false, false, true] rfl ?_
                exact lab141 _ _ hf
              · replace hf := (if_neg n_56_0).symm.trans hf
                by_cases n_56_1 : x2 = (1 : Int32)
                · replace hf := (if_pos n_56_1).symm.trans hf
                  refine j_tsI (k := (1 : Int32)) (tgt := 99) X n_56_1 dX11_voice_56 (by decide) (by decide) rfl (by decide) ?_
                  refine j_aload X dX11_voice_99 rfl ?_
                  refine j_aload_n X dX11_voice_101 rfl rfl ?_
                  refine j_get (C := RX11) (T := TX11) (N := 10) X iX11 0 (wX_0 ..) rfl 4 (by decide) k_314 rfl rfl dX11_voice_102 ?_
                  refine j_iload_n X dX11_voice_105 rfl rfl ?_
                  obtain ⟨q47, g_q47, hf⟩ := ob_t hf
                  obtain ⟨μ48, e_μ48, hf⟩ := bd_e hf
                  refine j_callU (n := 2) (x := ⟨RX7, "leans", "(LStandStill$Speaker;I)I"⟩) (owner := RX7) X [74, 75, 76, 67, 68, 69, 70, 71, 72, 73] 6 (c_X7_leans_k3 E (fun j => h (List.getD [74, 75, 76, 67, 68, 69, 70, 71, 72, 73] j 0)) (fun j => g (List.getD [] j 0)) g_q47) (cut_wX_wV_74_75_76_c ..) rfl rfl (ws' := (wX E h g μ48)) (by rw [e_μ48]; exact cut_wX_wV_74_75_76_w ..) (wV_6 ..) rfl k_763 k_766 k_774 k_764 k_69 k_784 (⟨rfl, rfl⟩) rfl (by decide +kernel) ⟨Nat.le_of_ble_eq_true rfl, Nat.le_of_ble_eq_true rfl⟩ rfl (Nat.le_of_ble_eq_true rfl) rfl dX11_voice_106 ?_
                  refine j_istore5 X dX11_voice_109 (by decide) rfl ?_
                  refine j_goto (tgt := 141) X dX11_voice_111 (by decide) ?_
                  refine j_keep [true, false, false, false, false, true] rfl ?_
                  exact lab141 _ _ hf
                · replace hf := (if_neg n_56_1).symm.trans hf
                  by_cases n_56_2 : x2 = (2 : Int32)
                  · replace hf := (if_pos n_56_2).symm.trans hf
                    refine j_tsI (k := (2 : Int32)) (tgt := 114) X n_56_2 dX11_voice_56 (by decide) (by decide) rfl (by decide) ?_
                    refine j_aload X dX11_voice_114 rfl ?_
                    refine j_aload_n X dX11_voice_116 rfl rfl ?_
                    refine j_get (C := RX11) (T := TX11) (N := 10) X iX11 0 (wX_0 ..) rfl 4 (by decide) k_314 rfl rfl dX11_voice_117 ?_
                    refine j_iload_n X dX11_voice_120 rfl rfl ?_
                    obtain ⟨q49, g_q49, hf⟩ := ob_t hf
                    obtain ⟨μ50, e_μ50, hf⟩ := bd_e hf
                    refine j_callO (n := 2) (x := ⟨RX7, "sways", "(LStandStill$Speaker;I)I"⟩) (owner := RX7) X [74, 75, 76, 67, 68, 69, 70, 71, 72, 73] 6 (c_X8_sways_k3 E (fun j => h (List.getD [74, 75, 76, 67, 68, 69, 70, 71, 72, 73] j 0)) (fun j => g (List.getD [] j 0)) g_q49) (cut_wX_wV_74_75_76_c ..) rfl rfl (ws' := (wX E h g μ50)) (by rw [e_μ50]; exact cut_wX_wV_74_75_76_w ..) (wV_6 ..) rfl k_786 k_789 k_787 k_798 k_799 k_72 k_800 (⟨rfl, rfl⟩) k_805 (by decide +kernel) ⟨Nat.le_of_ble_eq_true rfl, Nat.le_of_ble_eq_true rfl⟩ rfl (Nat.le_of_ble_eq_true rfl) rfl dX11_voice_121 ?_
                    refine j_istore5 X dX11_voice_124 (by decide) rfl ?_
                    refine j_goto (tgt := 141) X dX11_voice_126 (by decide) ?_
                    refine j_keep [true, false, false, false, false, true] rfl ?_
                    exact lab141 _ _ hf
                  · replace hf := (if_neg n_56_2).symm.trans hf
                    refine j_tsD (tgt := 129) X [0, 1, 2] (List.forall_mem_cons.mpr ⟨lv_neT n_56_0 (a := 0) rfl, List.forall_mem_cons.mpr ⟨lv_neT n_56_1 (a := 1) rfl, List.forall_mem_cons.mpr ⟨lv_neT n_56_2 (a := 2) rfl, fun _ h => by cases h⟩⟩⟩) (by decide) (by decide) dX11_voice_56 (by decide) ?_
                    refine j_aload X dX11_voice_129 rfl ?_
                    refine j_aload_n X dX11_voice_131 rfl rfl ?_
                    refine j_get (C := RX11) (T := TX11) (N := 10) X iX11 0 (wX_0 ..) rfl 4 (by decide) k_314 rfl rfl dX11_voice_132 ?_
                    refine j_iload_n X dX11_voice_135 rfl rfl ?_
                    obtain ⟨q51, g_q51, hf⟩ := ob_t hf
                    obtain ⟨μ52, e_μ52, hf⟩ := bd_e hf
                    refine j_callU (n := 2) (x := ⟨RX7, "parts", "(LStandStill$Speaker;I)I"⟩) (owner := RX7) X [74, 75, 76, 67, 68, 69, 70, 71, 72, 73] 6 (c_X7_parts_k3 E (fun j => h (List.getD [74, 75, 76, 67, 68, 69, 70, 71, 72, 73] j 0)) (fun j => g (List.getD [] j 0)) g_q51) (cut_wX_wV_74_75_76_c ..) rfl rfl (ws' := (wX E h g μ52)) (by rw [e_μ52]; exact cut_wX_wV_74_75_76_w ..) (wV_6 ..) rfl k_807 k_810 k_822 k_808 k_69 k_825 (⟨rfl, rfl⟩) rfl (by decide +kernel) ⟨Nat.le_of_ble_eq_true rfl, Nat.le_of_ble_eq_true rfl⟩ rfl (Nat.le_of_ble_eq_true rfl) rfl dX11_voice_136 ?_
                    refine j_istore5 X dX11_voice_139 (by decide) rfl ?_
                    refine j_keep [true, false, false, false, false, true] rfl ?_
                    exact lab141 _ _ hf
            · replace hf := (if_neg n_30_3).symm.trans hf
              by_cases n_30_4 : q4.2 = 19
              · replace hf := (if_pos n_30_4).symm.trans hf
                refine j_stk (st' := [.ref (h 71)]) (by rw [n_30_4]; rfl) ?_
                refine j_astore4 X dX11_voice_33 (by decide) rfl ?_
                refine j_aload_n X dX11_voice_35 rfl rfl ?_
                refine j_get (C := RX11) (T := TX11) (N := 10) X iX11 0 (wX_0 ..) rfl 4 (by decide) k_314 rfl rfl dX11_voice_36 ?_
                refine j_iload_n X dX11_voice_39 rfl rfl ?_
                refine j_aload_n X dX11_voice_40 rfl rfl ?_
                refine j_get (C := RX11) (T := TX11) (N := 10) X iX11 0 (wX_0 ..) rfl 0 (by decide) k_310 rfl rfl dX11_voice_41 ?_
                refine j_get (C := RX5) (T := TX5) (N := 8) X iX5 1 (wX_1 ..) rfl 2 (by decide) k_239 rfl rfl dX11_voice_44 ?_
                refine j_get (C := RX4) (T := TX4) (N := 10) X iX4 23 (wX_23 ..) rfl 1 (by decide) k_195 rfl rfl dX11_voice_47 ?_
                refine j_iload_n X dX11_voice_50 rfl rfl ?_
                obtain ⟨c53, hf⟩ := oi_in hf
                refine j_iald X 25 (wX_25 ..) c53 dX11_voice_51 ?_
                obtain ⟨q54, g_q54, hf⟩ := ob_t hf
                obtain ⟨μ55, e_μ55, hf⟩ := bd_e hf
                refine j_callV X [74, 75, 76, 67, 68, 69, 70, 71, 72, 73] 0 (c_X6_starts E (fun j => h (List.getD [74, 75, 76, 67, 68, 69, 70, 71, 72, 73] j 0)) (fun j => g (List.getD [] j 0)) g_q54) (cut_wX_wV_74_75_76_c ..) rfl rfl (ws' := (wX E h g μ55)) (by rw [e_μ55]; exact cut_wX_wV_74_75_76_w ..) (wV_0 ..) rfl k_733 k_734 k_735 k_79 k_736 (⟨rfl, rfl⟩) hdV_X6_starts ⟨Nat.le_of_ble_eq_true rfl, Nat.le_of_ble_eq_true rfl⟩ rfl (Nat.le_of_ble_eq_true rfl) rfl dX11_voice_52 ?_
                refine j_iload_n X dX11_voice_55 rfl rfl ?_
                by_cases n_56_0 : x2 = (0 : Int32)
                · replace hf := (if_pos n_56_0).symm.trans hf
                  refine j_tsI (k := (0 : Int32)) (tgt := 84) X n_56_0 dX11_voice_56 (by decide) (by decide) rfl (by decide) ?_
                  refine j_aload X dX11_voice_84 rfl ?_
                  refine j_aload_n X dX11_voice_86 rfl rfl ?_
                  refine j_get (C := RX11) (T := TX11) (N := 10) X iX11 0 (wX_0 ..) rfl 4 (by decide) k_314 rfl rfl dX11_voice_87 ?_
                  refine j_iload_n X dX11_voice_90 rfl rfl ?_
                  obtain ⟨q56, g_q56, hf⟩ := ob_t hf
                  obtain ⟨μ57, e_μ57, hf⟩ := bd_e hf
                  refine j_callO (n := 2) (x := ⟨RX7, "holds", "(LStandStill$Speaker;I)I"⟩) (owner := RX7) X [74, 75, 76, 67, 68, 69, 70, 71, 72, 73] 7 (c_X3_holds_k4 E (fun j => h (List.getD [74, 75, 76, 67, 68, 69, 70, 71, 72, 73] j 0)) (fun j => g (List.getD [] j 0)) g_q56) (cut_wX_wV_74_75_76_c ..) rfl rfl (ws' := (wX E h g μ57)) (by rw [e_μ57]; exact cut_wX_wV_74_75_76_w ..) (wV_7 ..) rfl k_737 k_740 k_738 k_750 k_751 k_73 k_752 (⟨rfl, rfl⟩) k_761 (by decide +kernel) ⟨Nat.le_of_ble_eq_true rfl, Nat.le_of_ble_eq_true rfl⟩ rfl (Nat.le_of_ble_eq_true rfl) rfl dX11_voice_91 ?_
                  refine j_istore5 X dX11_voice_94 (by decide) rfl ?_
                  refine j_goto (tgt := 141) X dX11_voice_96 (by decide) ?_
                  refine j_keep [true, false, false, false, false, true] rfl ?_
                  exact lab141 _ _ hf
                · replace hf := (if_neg n_56_0).symm.trans hf
                  by_cases n_56_1 : x2 = (1 : Int32)
                  · replace hf := (if_pos n_56_1).symm.trans hf
                    refine j_tsI (k := (1 : Int32)) (tgt := 99) X n_56_1 dX11_voice_56 (by decide) (by decide) rfl (by decide) ?_
                    refine j_aload X dX11_voice_99 rfl ?_
                    refine j_aload_n X dX11_voice_101 rfl rfl ?_
                    refine j_get (C := RX11) (T := TX11) (N := 10) X iX11 0 (wX_0 ..) rfl 4 (by decide) k_314 rfl rfl dX11_voice_102 ?_
                    refine j_iload_n X dX11_voice_105 rfl rfl ?_
                    obtain ⟨q58, g_q58, hf⟩ := ob_t hf
                    obtain ⟨μ59, e_μ59, hf⟩ := bd_e hf
                    refine j_callU (n := 2) (x := ⟨RX7, "leans", "(LStandStill$Speaker;I)I"⟩) (owner := RX7) X [74, 75, 76, 67, 68, 69, 70, 71, 72, 73] 7 (c_X7_leans_k4 E (fun j => h (List.getD [74, 75, 76, 67, 68, 69, 70, 71, 72, 73] j 0)) (fun j => g (List.getD [] j 0)) g_q58) (cut_wX_wV_74_75_76_c ..) rfl rfl (ws' := (wX E h g μ59)) (by rw [e_μ59]; exact cut_wX_wV_74_75_76_w ..) (wV_7 ..) rfl k_763 k_766 k_773 k_764 k_69 k_784 (⟨rfl, rfl⟩) rfl (by decide +kernel) ⟨Nat.le_of_ble_eq_true rfl, Nat.le_of_ble_eq_true rfl⟩ rfl (Nat.le_of_ble_eq_true rfl) rfl dX11_voice_106 ?_
                    refine j_istore5 X dX11_voice_109 (by decide) rfl ?_
                    refine j_goto (tgt := 141) X dX11_voice_111 (by decide) ?_
                    refine j_keep [true, false, false, false, false, true] rfl ?_
                    exact lab141 _ _ hf
                  · replace hf := (if_neg n_56_1).symm.trans hf
                    by_cases n_56_2 : x2 = (2 : Int32)
                    · replace hf := (if_pos n_56_2).symm.trans hf
                      refine j_tsI (k := (2 : Int32)) (tgt := 114) X n_56_2 dX11_voice_56 (by decide) (by decide) rfl (by decide) ?_
                      refine j_aload X dX11_voice_114 rfl ?_
                      refine j_aload_n X dX11_voice_116 rfl rfl ?_
                      refine j_get (C := RX11) (T := TX11) (N := 10) X iX11 0 (wX_0 ..) rfl 4 (by decide) k_314 rfl rfl dX11_voice_117 ?_
                      refine j_iload_n X dX11_voice_120 rfl rfl ?_
                      obtain ⟨q60, g_q60, hf⟩ := ob_t hf
                      obtain ⟨μ61, e_μ61, hf⟩ := bd_e hf
                      refine j_callO (n := 2) (x := ⟨RX7, "sways", "(LStandStill$Speaker;I)I"⟩) (owner := RX7) X [74, 75, 76, 67, 68, 69, 70, 71, 72, 73] 7 (c_X3_sways_k4 E (fun j => h (List.getD [74, 75, 76, 67, 68, 69, 70, 71, 72, 73] j 0)) (fun j => g (List.getD [] j 0)) g_q60) (cut_wX_wV_74_75_76_c ..) rfl rfl (ws' := (wX E h g μ61)) (by rw [e_μ61]; exact cut_wX_wV_74_75_76_w ..) (wV_7 ..) rfl k_786 k_789 k_787 k_792 k_793 k_73 k_794 (⟨rfl, rfl⟩) k_805 (by decide +kernel) ⟨Nat.le_of_ble_eq_true rfl, Nat.le_of_ble_eq_true rfl⟩ rfl (Nat.le_of_ble_eq_true rfl) rfl dX11_voice_121 ?_
                      refine j_istore5 X dX11_voice_124 (by decide) rfl ?_
                      refine j_goto (tgt := 141) X dX11_voice_126 (by decide) ?_
                      refine j_keep [true, false, false, false, false, true] rfl ?_
                      exact lab141 _ _ hf
                    · replace hf := (if_neg n_56_2).symm.trans hf
                      refine j_tsD (tgt := 129) X [0, 1, 2] (List.forall_mem_cons.mpr ⟨lv_neT n_56_0 (a := 0) rfl, List.forall_mem_cons.mpr ⟨lv_neT n_56_1 (a := 1) rfl, List.forall_mem_cons.mpr ⟨lv_neT n_56_2 (a := 2) rfl, fun _ h => by cases h⟩⟩⟩) (by decide) (by decide) dX11_voice_56 (by decide) ?_
                      refine j_aload X dX11_voice_129 rfl ?_
                      refine j_aload_n X dX11_voice_131 rfl rfl ?_
                      refine j_get (C := RX11) (T := TX11) (N := 10) X iX11 0 (wX_0 ..) rfl 4 (by decide) k_314 rfl rfl dX11_voice_132 ?_
                      refine j_iload_n X dX11_voice_135 rfl rfl ?_
                      obtain ⟨q62, g_q62, hf⟩ := ob_t hf
                      obtain ⟨μ63, e_μ63, hf⟩ := bd_e hf
                      refine j_callO (n := 2) (x := ⟨RX7, "parts", "(LStandStill$Speaker;I)I"⟩) (owner := RX7) X [74, 75, 76, 67, 68, 69, 70, 71, 72, 73] 7 (c_X0_parts_k4 E (fun j => h (List.getD [74, 75, 76, 67, 68, 69, 70, 71, 72, 73] j 0)) (fun j => g (List.getD [] j 0)) g_q62) (cut_wX_wV_74_75_76_c ..) rfl rfl (ws' := (wX E h g μ63)) (by rw [e_μ63]; exact cut_wX_wV_74_75_76_w ..) (wV_7 ..) rfl k_807 k_810 k_808 k_821 k_812 k_70 k_813 (⟨rfl, rfl⟩) k_825 (by decide +kernel) ⟨Nat.le_of_ble_eq_true rfl, Nat.le_of_ble_eq_true rfl⟩ rfl (Nat.le_of_ble_eq_true rfl) rfl dX11_voice_136 ?_
                      refine j_istore5 X dX11_voice_139 (by decide) rfl ?_
                      refine j_keep [true, false, false, false, false, true] rfl ?_
                      exact lab141 _ _ hf
              · replace hf := (if_neg n_30_4).symm.trans hf
                by_cases n_30_5 : q4.2 = 20
                · replace hf := (if_pos n_30_5).symm.trans hf
                  refine j_stk (st' := [.ref (h 72)]) (by rw [n_30_5]; rfl) ?_
                  refine j_astore4 X dX11_voice_33 (by decide) rfl ?_
                  refine j_aload_n X dX11_voice_35 rfl rfl ?_
                  refine j_get (C := RX11) (T := TX11) (N := 10) X iX11 0 (wX_0 ..) rfl 4 (by decide) k_314 rfl rfl dX11_voice_36 ?_
                  refine j_iload_n X dX11_voice_39 rfl rfl ?_
                  refine j_aload_n X dX11_voice_40 rfl rfl ?_
                  refine j_get (C := RX11) (T := TX11) (N := 10) X iX11 0 (wX_0 ..) rfl 0 (by decide) k_310 rfl rfl dX11_voice_41 ?_
                  refine j_get (C := RX5) (T := TX5) (N := 8) X iX5 1 (wX_1 ..) rfl 2 (by decide) k_239 rfl rfl dX11_voice_44 ?_
                  refine j_get (C := RX4) (T := TX4) (N := 10) X iX4 23 (wX_23 ..) rfl 1 (by decide) k_195 rfl rfl dX11_voice_47 ?_
                  refine j_iload_n X dX11_voice_50 rfl rfl ?_
                  obtain ⟨c64, hf⟩ := oi_in hf
                  refine j_iald X 25 (wX_25 ..) c64 dX11_voice_51 ?_
                  obtain ⟨q65, g_q65, hf⟩ := ob_t hf
                  obtain ⟨μ66, e_μ66, hf⟩ := bd_e hf
                  refine j_callV X [74, 75, 76, 67, 68, 69, 70, 71, 72, 73] 0 (c_X6_starts E (fun j => h (List.getD [74, 75, 76, 67, 68, 69, 70, 71, 72, 73] j 0)) (fun j => g (List.getD [] j 0)) g_q65) (cut_wX_wV_74_75_76_c ..) rfl rfl (ws' := (wX E h g μ66)) (by rw [e_μ66]; exact cut_wX_wV_74_75_76_w ..) (wV_0 ..) rfl k_733 k_734 k_735 k_79 k_736 (⟨rfl, rfl⟩) hdV_X6_starts ⟨Nat.le_of_ble_eq_true rfl, Nat.le_of_ble_eq_true rfl⟩ rfl (Nat.le_of_ble_eq_true rfl) rfl dX11_voice_52 ?_
                  refine j_iload_n X dX11_voice_55 rfl rfl ?_
                  by_cases n_56_0 : x2 = (0 : Int32)
                  · replace hf := (if_pos n_56_0).symm.trans hf
                    refine j_tsI (k := (0 : Int32)) (tgt := 84) X n_56_0 dX11_voice_56 (by decide) (by decide) rfl (by decide) ?_
                    refine j_aload X dX11_voice_84 rfl ?_
                    refine j_aload_n X dX11_voice_86 rfl rfl ?_
                    refine j_get (C := RX11) (T := TX11) (N := 10) X iX11 0 (wX_0 ..) rfl 4 (by decide) k_314 rfl rfl dX11_voice_87 ?_
                    refine j_iload_n X dX11_voice_90 rfl rfl ?_
                    obtain ⟨q67, g_q67, hf⟩ := ob_t hf
                    obtain ⟨μ68, e_μ68, hf⟩ := bd_e hf
                    refine j_callU (n := 2) (x := ⟨RX7, "holds", "(LStandStill$Speaker;I)I"⟩) (owner := RX7) X [74, 75, 76, 67, 68, 69, 70, 71, 72, 73] 8 (c_X7_holds_k5 E (fun j => h (List.getD [74, 75, 76, 67, 68, 69, 70, 71, 72, 73] j 0)) (fun j => g (List.getD [] j 0)) g_q67) (cut_wX_wV_74_75_76_c ..) rfl rfl (ws' := (wX E h g μ68)) (by rw [e_μ68]; exact cut_wX_wV_74_75_76_w ..) (wV_8 ..) rfl k_737 k_740 k_760 k_738 k_69 k_761 (⟨rfl, rfl⟩) rfl (by decide +kernel) ⟨Nat.le_of_ble_eq_true rfl, Nat.le_of_ble_eq_true rfl⟩ rfl (Nat.le_of_ble_eq_true rfl) rfl dX11_voice_91 ?_
                    refine j_istore5 X dX11_voice_94 (by decide) rfl ?_
                    refine j_goto (tgt := 141) X dX11_voice_96 (by decide) ?_
                    refine j_keep [true, false, false, false, false, true] rfl ?_
                    exact lab141 _ _ hf
                  · replace hf := (if_neg n_56_0).symm.trans hf
                    by_cases n_56_1 : x2 = (1 : Int32)
                    · replace hf := (if_pos n_56_1).symm.trans hf
                      refine j_tsI (k := (1 : Int32)) (tgt := 99) X n_56_1 dX11_voice_56 (by decide) (by decide) rfl (by decide) ?_
                      refine j_aload X dX11_voice_99 rfl ?_
                      refine j_aload_n X dX11_voice_101 rfl rfl ?_
                      refine j_get (C := RX11) (T := TX11) (N := 10) X iX11 0 (wX_0 ..) rfl 4 (by decide) k_314 rfl rfl dX11_voice_102 ?_
                      refine j_iload_n X dX11_voice_105 rfl rfl ?_
                      obtain ⟨q69, g_q69, hf⟩ := ob_t hf
                      obtain ⟨μ70, e_μ70, hf⟩ := bd_e hf
                      refine j_callO (n := 2) (x := ⟨RX7, "leans", "(LStandStill$Speaker;I)I"⟩) (owner := RX7) X [74, 75, 76, 67, 68, 69, 70, 71, 72, 73] 8 (c_X10_leans_k5 E (fun j => h (List.getD [74, 75, 76, 67, 68, 69, 70, 71, 72, 73] j 0)) (fun j => g (List.getD [] j 0)) g_q69) (cut_wX_wV_74_75_76_c ..) rfl rfl (ws' := (wX E h g μ70)) (by rw [e_μ70]; exact cut_wX_wV_74_75_76_w ..) (wV_8 ..) rfl k_763 k_766 k_764 k_779 k_780 k_74 k_781 (⟨rfl, rfl⟩) k_784 (by decide +kernel) ⟨Nat.le_of_ble_eq_true rfl, Nat.le_of_ble_eq_true rfl⟩ rfl (Nat.le_of_ble_eq_true rfl) rfl dX11_voice_106 ?_
                      refine j_istore5 X dX11_voice_109 (by decide) rfl ?_
                      refine j_goto (tgt := 141) X dX11_voice_111 (by decide) ?_
                      refine j_keep [true, false, false, false, false, true] rfl ?_
                      exact lab141 _ _ hf
                    · replace hf := (if_neg n_56_1).symm.trans hf
                      by_cases n_56_2 : x2 = (2 : Int32)
                      · replace hf := (if_pos n_56_2).symm.trans hf
                        refine j_tsI (k := (2 : Int32)) (tgt := 114) X n_56_2 dX11_voice_56 (by decide) (by decide) rfl (by decide) ?_
                        refine j_aload X dX11_voice_114 rfl ?_
                        refine j_aload_n X dX11_voice_116 rfl rfl ?_
                        refine j_get (C := RX11) (T := TX11) (N := 10) X iX11 0 (wX_0 ..) rfl 4 (by decide) k_314 rfl rfl dX11_voice_117 ?_
                        refine j_iload_n X dX11_voice_120 rfl rfl ?_
                        obtain ⟨q71, g_q71, hf⟩ := ob_t hf
                        obtain ⟨μ72, e_μ72, hf⟩ := bd_e hf
                        refine j_callU (n := 2) (x := ⟨RX7, "sways", "(LStandStill$Speaker;I)I"⟩) (owner := RX7) X [74, 75, 76, 67, 68, 69, 70, 71, 72, 73] 8 (c_X7_sways_k5 E (fun j => h (List.getD [74, 75, 76, 67, 68, 69, 70, 71, 72, 73] j 0)) (fun j => g (List.getD [] j 0)) g_q71) (cut_wX_wV_74_75_76_c ..) rfl rfl (ws' := (wX E h g μ72)) (by rw [e_μ72]; exact cut_wX_wV_74_75_76_w ..) (wV_8 ..) rfl k_786 k_789 k_804 k_787 k_69 k_805 (⟨rfl, rfl⟩) rfl (by decide +kernel) ⟨Nat.le_of_ble_eq_true rfl, Nat.le_of_ble_eq_true rfl⟩ rfl (Nat.le_of_ble_eq_true rfl) rfl dX11_voice_121 ?_
                        refine j_istore5 X dX11_voice_124 (by decide) rfl ?_
                        refine j_goto (tgt := 141) X dX11_voice_126 (by decide) ?_
                        refine j_keep [true, false, false, false, false, true] rfl ?_
                        exact lab141 _ _ hf
                      · replace hf := (if_neg n_56_2).symm.trans hf
                        refine j_tsD (tgt := 129) X [0, 1, 2] (List.forall_mem_cons.mpr ⟨lv_neT n_56_0 (a := 0) rfl, List.forall_mem_cons.mpr ⟨lv_neT n_56_1 (a := 1) rfl, List.forall_mem_cons.mpr ⟨lv_neT n_56_2 (a := 2) rfl, fun _ h => by cases h⟩⟩⟩) (by decide) (by decide) dX11_voice_56 (by decide) ?_
                        refine j_aload X dX11_voice_129 rfl ?_
                        refine j_aload_n X dX11_voice_131 rfl rfl ?_
                        refine j_get (C := RX11) (T := TX11) (N := 10) X iX11 0 (wX_0 ..) rfl 4 (by decide) k_314 rfl rfl dX11_voice_132 ?_
                        refine j_iload_n X dX11_voice_135 rfl rfl ?_
                        obtain ⟨q73, g_q73, hf⟩ := ob_t hf
                        obtain ⟨μ74, e_μ74, hf⟩ := bd_e hf
                        refine j_callU (n := 2) (x := ⟨RX7, "parts", "(LStandStill$Speaker;I)I"⟩) (owner := RX7) X [74, 75, 76, 67, 68, 69, 70, 71, 72, 73] 8 (c_X7_parts_k5 E (fun j => h (List.getD [74, 75, 76, 67, 68, 69, 70, 71, 72, 73] j 0)) (fun j => g (List.getD [] j 0)) g_q73) (cut_wX_wV_74_75_76_c ..) rfl rfl (ws' := (wX E h g μ74)) (by rw [e_μ74]; exact cut_wX_wV_74_75_76_w ..) (wV_8 ..) rfl k_807 k_810 k_824 k_808 k_69 k_825 (⟨rfl, rfl⟩) rfl (by decide +kernel) ⟨Nat.le_of_ble_eq_true rfl, Nat.le_of_ble_eq_true rfl⟩ rfl (Nat.le_of_ble_eq_true rfl) rfl dX11_voice_136 ?_
                        refine j_istore5 X dX11_voice_139 (by decide) rfl ?_
                        refine j_keep [true, false, false, false, false, true] rfl ?_
                        exact lab141 _ _ hf
                · replace hf := (if_neg n_30_5).symm.trans hf
                  by_cases n_30_6 : q4.2 = 21
                  · replace hf := (if_pos n_30_6).symm.trans hf
                    refine j_stk (st' := [.ref (h 73)]) (by rw [n_30_6]; rfl) ?_
                    refine j_astore4 X dX11_voice_33 (by decide) rfl ?_
                    refine j_aload_n X dX11_voice_35 rfl rfl ?_
                    refine j_get (C := RX11) (T := TX11) (N := 10) X iX11 0 (wX_0 ..) rfl 4 (by decide) k_314 rfl rfl dX11_voice_36 ?_
                    refine j_iload_n X dX11_voice_39 rfl rfl ?_
                    refine j_aload_n X dX11_voice_40 rfl rfl ?_
                    refine j_get (C := RX11) (T := TX11) (N := 10) X iX11 0 (wX_0 ..) rfl 0 (by decide) k_310 rfl rfl dX11_voice_41 ?_
                    refine j_get (C := RX5) (T := TX5) (N := 8) X iX5 1 (wX_1 ..) rfl 2 (by decide) k_239 rfl rfl dX11_voice_44 ?_
                    refine j_get (C := RX4) (T := TX4) (N := 10) X iX4 23 (wX_23 ..) rfl 1 (by decide) k_195 rfl rfl dX11_voice_47 ?_
                    refine j_iload_n X dX11_voice_50 rfl rfl ?_
                    obtain ⟨c75, hf⟩ := oi_in hf
                    refine j_iald X 25 (wX_25 ..) c75 dX11_voice_51 ?_
                    obtain ⟨q76, g_q76, hf⟩ := ob_t hf
                    obtain ⟨μ77, e_μ77, hf⟩ := bd_e hf
                    refine j_callV X [74, 75, 76, 67, 68, 69, 70, 71, 72, 73] 0 (c_X6_starts E (fun j => h (List.getD [74, 75, 76, 67, 68, 69, 70, 71, 72, 73] j 0)) (fun j => g (List.getD [] j 0)) g_q76) (cut_wX_wV_74_75_76_c ..) rfl rfl (ws' := (wX E h g μ77)) (by rw [e_μ77]; exact cut_wX_wV_74_75_76_w ..) (wV_0 ..) rfl k_733 k_734 k_735 k_79 k_736 (⟨rfl, rfl⟩) hdV_X6_starts ⟨Nat.le_of_ble_eq_true rfl, Nat.le_of_ble_eq_true rfl⟩ rfl (Nat.le_of_ble_eq_true rfl) rfl dX11_voice_52 ?_
                    refine j_iload_n X dX11_voice_55 rfl rfl ?_
                    by_cases n_56_0 : x2 = (0 : Int32)
                    · replace hf := (if_pos n_56_0).symm.trans hf
                      refine j_tsI (k := (0 : Int32)) (tgt := 84) X n_56_0 dX11_voice_56 (by decide) (by decide) rfl (by decide) ?_
                      refine j_aload X dX11_voice_84 rfl ?_
                      refine j_aload_n X dX11_voice_86 rfl rfl ?_
                      refine j_get (C := RX11) (T := TX11) (N := 10) X iX11 0 (wX_0 ..) rfl 4 (by decide) k_314 rfl rfl dX11_voice_87 ?_
                      refine j_iload_n X dX11_voice_90 rfl rfl ?_
                      obtain ⟨q78, g_q78, hf⟩ := ob_t hf
                      obtain ⟨μ79, e_μ79, hf⟩ := bd_e hf
                      refine j_callO (n := 2) (x := ⟨RX7, "holds", "(LStandStill$Speaker;I)I"⟩) (owner := RX7) X [74, 75, 76, 67, 68, 69, 70, 71, 72, 73] 9 (c_X9_holds_k6 E (fun j => h (List.getD [74, 75, 76, 67, 68, 69, 70, 71, 72, 73] j 0)) (fun j => g (List.getD [] j 0)) g_q78) (cut_wX_wV_74_75_76_c ..) rfl rfl (ws' := (wX E h g μ79)) (by rw [e_μ79]; exact cut_wX_wV_74_75_76_w ..) (wV_9 ..) rfl k_737 k_740 k_738 k_756 k_757 k_75 k_758 (⟨rfl, rfl⟩) k_761 (by decide +kernel) ⟨Nat.le_of_ble_eq_true rfl, Nat.le_of_ble_eq_true rfl⟩ rfl (Nat.le_of_ble_eq_true rfl) rfl dX11_voice_91 ?_
                      refine j_istore5 X dX11_voice_94 (by decide) rfl ?_
                      refine j_goto (tgt := 141) X dX11_voice_96 (by decide) ?_
                      refine j_keep [true, false, false, false, false, true] rfl ?_
                      exact lab141 _ _ hf
                    · replace hf := (if_neg n_56_0).symm.trans hf
                      by_cases n_56_1 : x2 = (1 : Int32)
                      · replace hf := (if_pos n_56_1).symm.trans hf
                        refine j_tsI (k := (1 : Int32)) (tgt := 99) X n_56_1 dX11_voice_56 (by decide) (by decide) rfl (by decide) ?_
                        refine j_aload X dX11_voice_99 rfl ?_
                        refine j_aload_n X dX11_voice_101 rfl rfl ?_
                        refine j_get (C := RX11) (T := TX11) (N := 10) X iX11 0 (wX_0 ..) rfl 4 (by decide) k_314 rfl rfl dX11_voice_102 ?_
                        refine j_iload_n X dX11_voice_105 rfl rfl ?_
                        obtain ⟨q80, g_q80, hf⟩ := ob_t hf
                        obtain ⟨μ81, e_μ81, hf⟩ := bd_e hf
                        refine j_callO (n := 2) (x := ⟨RX7, "leans", "(LStandStill$Speaker;I)I"⟩) (owner := RX7) X [74, 75, 76, 67, 68, 69, 70, 71, 72, 73] 9 (c_X9_leans_k6 E (fun j => h (List.getD [74, 75, 76, 67, 68, 69, 70, 71, 72, 73] j 0)) (fun j => g (List.getD [] j 0)) g_q80) (cut_wX_wV_74_75_76_c ..) rfl rfl (ws' := (wX E h g μ81)) (by rw [e_μ81]; exact cut_wX_wV_74_75_76_w ..) (wV_9 ..) rfl k_763 k_766 k_764 k_775 k_776 k_75 k_777 (⟨rfl, rfl⟩) k_784 (by decide +kernel) ⟨Nat.le_of_ble_eq_true rfl, Nat.le_of_ble_eq_true rfl⟩ rfl (Nat.le_of_ble_eq_true rfl) rfl dX11_voice_106 ?_
                        refine j_istore5 X dX11_voice_109 (by decide) rfl ?_
                        refine j_goto (tgt := 141) X dX11_voice_111 (by decide) ?_
                        refine j_keep [true, false, false, false, false, true] rfl ?_
                        exact lab141 _ _ hf
                      · replace hf := (if_neg n_56_1).symm.trans hf
                        by_cases n_56_2 : x2 = (2 : Int32)
                        · replace hf := (if_pos n_56_2).symm.trans hf
                          refine j_tsI (k := (2 : Int32)) (tgt := 114) X n_56_2 dX11_voice_56 (by decide) (by decide) rfl (by decide) ?_
                          refine j_aload X dX11_voice_114 rfl ?_
                          refine j_aload_n X dX11_voice_116 rfl rfl ?_
                          refine j_get (C := RX11) (T := TX11) (N := 10) X iX11 0 (wX_0 ..) rfl 4 (by decide) k_314 rfl rfl dX11_voice_117 ?_
                          refine j_iload_n X dX11_voice_120 rfl rfl ?_
                          obtain ⟨q82, g_q82, hf⟩ := ob_t hf
                          obtain ⟨μ83, e_μ83, hf⟩ := bd_e hf
                          refine j_callU (n := 2) (x := ⟨RX7, "sways", "(LStandStill$Speaker;I)I"⟩) (owner := RX7) X [74, 75, 76, 67, 68, 69, 70, 71, 72, 73] 9 (c_X7_sways_k6 E (fun j => h (List.getD [74, 75, 76, 67, 68, 69, 70, 71, 72, 73] j 0)) (fun j => g (List.getD [] j 0)) g_q82) (cut_wX_wV_74_75_76_c ..) rfl rfl (ws' := (wX E h g μ83)) (by rw [e_μ83]; exact cut_wX_wV_74_75_76_w ..) (wV_9 ..) rfl k_786 k_789 k_803 k_787 k_69 k_805 (⟨rfl, rfl⟩) rfl (by decide +kernel) ⟨Nat.le_of_ble_eq_true rfl, Nat.le_of_ble_eq_true rfl⟩ rfl (Nat.le_of_ble_eq_true rfl) rfl dX11_voice_121 ?_
                          refine j_istore5 X dX11_voice_124 (by decide) rfl ?_
                          refine j_goto (tgt := 141) X dX11_voice_126 (by decide) ?_
                          refine j_keep [true, false, false, false, false, true] rfl ?_
                          exact lab141 _ _ hf
                        · replace hf := (if_neg n_56_2).symm.trans hf
                          refine j_tsD (tgt := 129) X [0, 1, 2] (List.forall_mem_cons.mpr ⟨lv_neT n_56_0 (a := 0) rfl, List.forall_mem_cons.mpr ⟨lv_neT n_56_1 (a := 1) rfl, List.forall_mem_cons.mpr ⟨lv_neT n_56_2 (a := 2) rfl, fun _ h => by cases h⟩⟩⟩) (by decide) (by decide) dX11_voice_56 (by decide) ?_
                          refine j_aload X dX11_voice_129 rfl ?_
                          refine j_aload_n X dX11_voice_131 rfl rfl ?_
                          refine j_get (C := RX11) (T := TX11) (N := 10) X iX11 0 (wX_0 ..) rfl 4 (by decide) k_314 rfl rfl dX11_voice_132 ?_
                          refine j_iload_n X dX11_voice_135 rfl rfl ?_
                          obtain ⟨q84, g_q84, hf⟩ := ob_t hf
                          obtain ⟨μ85, e_μ85, hf⟩ := bd_e hf
                          refine j_callU (n := 2) (x := ⟨RX7, "parts", "(LStandStill$Speaker;I)I"⟩) (owner := RX7) X [74, 75, 76, 67, 68, 69, 70, 71, 72, 73] 9 (c_X7_parts_k6 E (fun j => h (List.getD [74, 75, 76, 67, 68, 69, 70, 71, 72, 73] j 0)) (fun j => g (List.getD [] j 0)) g_q84) (cut_wX_wV_74_75_76_c ..) rfl rfl (ws' := (wX E h g μ85)) (by rw [e_μ85]; exact cut_wX_wV_74_75_76_w ..) (wV_9 ..) rfl k_807 k_810 k_823 k_808 k_69 k_825 (⟨rfl, rfl⟩) rfl (by decide +kernel) ⟨Nat.le_of_ble_eq_true rfl, Nat.le_of_ble_eq_true rfl⟩ rfl (Nat.le_of_ble_eq_true rfl) rfl dX11_voice_136 ?_
                          refine j_istore5 X dX11_voice_139 (by decide) rfl ?_
                          refine j_keep [true, false, false, false, false, true] rfl ?_
                          exact lab141 _ _ hf
                  · replace hf := (if_neg n_30_6).symm.trans hf
                    cases hf
    · replace hf := (if_pos c_13).symm.trans hf
      refine j_aload_n X dX11_voice_16 rfl rfl ?_
      refine j_iconst (v := (1 : Int32)) X dX11_voice_17 (by decide) ?_
      obtain ⟨q86, g_q86, hf⟩ := ob_t hf
      refine j_callV X [0, 1, 2, 3, 4, 5, 6, 7, 8, 9, 10, 11, 12, 13, 14, 15, 16, 17, 18, 19, 20, 21, 22, 23, 24, 25, 26, 27, 28, 29, 30, 31, 32, 33, 34, 35, 36, 37, 38, 39, 40, 41, 42, 43, 44, 45, 46, 47, 48, 49, 50, 51, 52, 53, 54, 55, 56, 57, 58, 59, 60, 61, 62, 63, 64, 65, 66, 67, 68, 69, 70, 71, 72, 73, 74, 75, 76, 77, 78, 79, 80, 81, 82, 83, 84] 0 (c_X11_fails E h g g_q86) (cut_wX_wX_c ..) rfl rfl (ws' := (wX E h g q86.1)) (cut_wX_wX_w ..) (wX_0 ..) rfl k_351 k_353 k_0 k_68 k_354 (⟨rfl, rfl⟩) hdV_X11_fails ⟨Nat.le_of_ble_eq_true rfl, Nat.le_of_ble_eq_true rfl⟩ rfl (Nat.le_of_ble_eq_true rfl) rfl dX11_voice_18 ?_
      obtain rfl := Option.some.inj hf
      exact j_iret X hr hlk rfl dX11_voice_21 hQ
def f_X11_body (μ : Mem) (x1 : Int32) : Option (Mem × Int32) := (f_X11_within x1 (0 : Int32) ((μ 74 3) - (1 : Int32))).bind fun q1 => ((if q1 = 0 then (f_X11_fails μ (2 : Int32)).bind fun q3 => (some (q3.1, q3.2)) else (if inb x1 30 = true then some (μ, (μ 75 x1.toNatClampNeg)) else none)))
set_option maxHeartbeats 4000000 in
set_option maxRecDepth 20000 in
theorem c_X11_body (E : Ev) (h : Nat → Nat) (g : Nat → Option Nat) {μ : Mem} {x1 : Int32} {r : (Mem × Int32)} (hf : f_X11_body μ x1 = some r) : Ct E yX11_body cX11_body 2 (some .int) (rmOf 1 22) (wX E h g μ) (wX E h g r.1) [.ref (h 0), .int x1] (some (.int r.2)) := by
  refine ct_start RX11 0 (by decide) rfl (Nat.le_of_ble_eq_true rfl) ?_
  intro p l e s m args below meth c A Q X hr hlk hQ
  rw [f_X11_body] at hf
  refine j_iload_n X dX11_body_0 rfl rfl ?_
  refine j_iconst (v := (0 : Int32)) X dX11_body_1 (by decide) ?_
  refine j_aload_n X dX11_body_2 rfl rfl ?_
  refine j_get (C := RX11) (T := TX11) (N := 10) X iX11 0 (wX_0 ..) rfl 4 (by decide) k_314 rfl rfl dX11_body_3 ?_
  refine j_get (C := RX6) (T := TX6) (N := 7) X iX6 74 (wX_74 ..) rfl 3 (by decide) k_288 rfl rfl dX11_body_6 ?_
  refine j_iconst (v := (1 : Int32)) X dX11_body_9 (by decide) ?_
  refine j_isub X dX11_body_10 ?_
  obtain ⟨q1, g_q1, hf⟩ := ob_t hf
  refine j_callS X [] (c_X11_within E g_q1) rfl rfl rfl (ws' := (wX E h g μ)) rfl k_348 k_349 k_68 k_350 (⟨rfl, rfl⟩) hdS_X11_within ⟨Nat.le_of_ble_eq_true rfl, Nat.le_of_ble_eq_true rfl⟩ rfl (Nat.le_of_ble_eq_true rfl) rfl dX11_body_11 ?_
  refine j_if_ne (tgt := 23) X dX11_body_14 (by decide) (fun c_14 => ?_) (fun c_14 => ?_)
  · replace hf := (if_neg c_14).symm.trans hf
    refine j_aload_n X dX11_body_23 rfl rfl ?_
    refine j_get (C := RX11) (T := TX11) (N := 10) X iX11 0 (wX_0 ..) rfl 4 (by decide) k_314 rfl rfl dX11_body_24 ?_
    refine j_get (C := RX6) (T := TX6) (N := 7) X iX6 74 (wX_74 ..) rfl 4 (by decide) k_290 rfl rfl dX11_body_27 ?_
    refine j_iload_n X dX11_body_30 rfl rfl ?_
    obtain ⟨c2, hf⟩ := oi_in hf
    refine j_iald X 75 (wX_75 ..) c2 dX11_body_31 ?_
    obtain rfl := Option.some.inj hf
    exact j_iret X hr hlk rfl dX11_body_32 hQ
  · replace hf := (if_pos c_14).symm.trans hf
    refine j_aload_n X dX11_body_17 rfl rfl ?_
    refine j_iconst (v := (2 : Int32)) X dX11_body_18 (by decide) ?_
    obtain ⟨q3, g_q3, hf⟩ := ob_t hf
    refine j_callV X [0, 1, 2, 3, 4, 5, 6, 7, 8, 9, 10, 11, 12, 13, 14, 15, 16, 17, 18, 19, 20, 21, 22, 23, 24, 25, 26, 27, 28, 29, 30, 31, 32, 33, 34, 35, 36, 37, 38, 39, 40, 41, 42, 43, 44, 45, 46, 47, 48, 49, 50, 51, 52, 53, 54, 55, 56, 57, 58, 59, 60, 61, 62, 63, 64, 65, 66, 67, 68, 69, 70, 71, 72, 73, 74, 75, 76, 77, 78, 79, 80, 81, 82, 83, 84] 0 (c_X11_fails E h g g_q3) (cut_wX_wX_c ..) rfl rfl (ws' := (wX E h g q3.1)) (cut_wX_wX_w ..) (wX_0 ..) rfl k_351 k_353 k_0 k_68 k_354 (⟨rfl, rfl⟩) hdV_X11_fails ⟨Nat.le_of_ble_eq_true rfl, Nat.le_of_ble_eq_true rfl⟩ rfl (Nat.le_of_ble_eq_true rfl) rfl dX11_body_19 ?_
    obtain rfl := Option.some.inj hf
    exact j_iret X hr hlk rfl dX11_body_22 hQ
def f_X11_isWidth (x0 : Int32) : Option Int32 := (if x0 = 0 then some (1 : Int32) else (if x0 = (8 : Int32) then some (1 : Int32) else (if x0 = (16 : Int32) then some (1 : Int32) else (if x0 = (32 : Int32) then some (1 : Int32) else some (0 : Int32)))))
set_option maxHeartbeats 4000000 in
set_option maxRecDepth 20000 in
theorem c_X11_isWidth (E : Ev) {x0 : Int32} {r : Int32} (hf : f_X11_isWidth x0 = some r) : Ct E yX11_isWidth cX11_isWidth 1 (some .boolean) (rmOf 0 0) [] [] [.int x0] (some (.int r)) := by
  refine ct_start RX11 0 (by decide) rfl (Nat.le_of_ble_eq_true rfl) ?_
  intro p l e s m args below meth c A Q X hr hlk hQ
  rw [f_X11_isWidth] at hf
  refine j_iload_n X dX11_isWidth_0 rfl rfl ?_
  refine j_if_eq (tgt := 22) X dX11_isWidth_1 (by decide) (fun c_1 => ?_) (fun c_1 => ?_)
  · replace hf := (if_pos c_1).symm.trans hf
    refine j_iconst (v := (1 : Int32)) X dX11_isWidth_22 (by decide) ?_
    refine j_goto (tgt := 27) X dX11_isWidth_23 (by decide) ?_
    obtain rfl := Option.some.inj hf
    exact j_iret X hr hlk rfl dX11_isWidth_27 hQ
  · replace hf := (if_neg c_1).symm.trans hf
    refine j_iload_n X dX11_isWidth_4 rfl rfl ?_
    refine j_bipush (v := (8 : Int32)) X dX11_isWidth_5 (by decide) ?_
    refine j_icmp_eq (tgt := 22) X dX11_isWidth_7 (by decide) (fun c_7 => ?_) (fun c_7 => ?_)
    · replace hf := (if_pos c_7).symm.trans hf
      refine j_iconst (v := (1 : Int32)) X dX11_isWidth_22 (by decide) ?_
      refine j_goto (tgt := 27) X dX11_isWidth_23 (by decide) ?_
      obtain rfl := Option.some.inj hf
      exact j_iret X hr hlk rfl dX11_isWidth_27 hQ
    · replace hf := (if_neg c_7).symm.trans hf
      refine j_iload_n X dX11_isWidth_10 rfl rfl ?_
      refine j_bipush (v := (16 : Int32)) X dX11_isWidth_11 (by decide) ?_
      refine j_icmp_eq (tgt := 22) X dX11_isWidth_13 (by decide) (fun c_13 => ?_) (fun c_13 => ?_)
      · replace hf := (if_pos c_13).symm.trans hf
        refine j_iconst (v := (1 : Int32)) X dX11_isWidth_22 (by decide) ?_
        refine j_goto (tgt := 27) X dX11_isWidth_23 (by decide) ?_
        obtain rfl := Option.some.inj hf
        exact j_iret X hr hlk rfl dX11_isWidth_27 hQ
      · replace hf := (if_neg c_13).symm.trans hf
        refine j_iload_n X dX11_isWidth_16 rfl rfl ?_
        refine j_bipush (v := (32 : Int32)) X dX11_isWidth_17 (by decide) ?_
        refine j_icmp_ne (tgt := 26) X dX11_isWidth_19 (by decide) (fun c_19 => ?_) (fun c_19 => ?_)
        · replace hf := (if_neg c_19).symm.trans hf
          refine j_iconst (v := (0 : Int32)) X dX11_isWidth_26 (by decide) ?_
          obtain rfl := Option.some.inj hf
          exact j_iret X hr hlk rfl dX11_isWidth_27 hQ
        · replace hf := (if_pos c_19).symm.trans hf
          refine j_iconst (v := (1 : Int32)) X dX11_isWidth_22 (by decide) ?_
          refine j_goto (tgt := 27) X dX11_isWidth_23 (by decide) ?_
          obtain rfl := Option.some.inj hf
          exact j_iret X hr hlk rfl dX11_isWidth_27 hQ
def f_X11_sheet_L75 : Nat → Mem → Int32 → Int32 → Option (Mem × Int32)
  | 0, _, _, _ => none
  | n + 1, μ, x1, x4 => (if (24 : Int32) ≤ x4 then some (μ, (1 : Int32)) else (if x1 = (0 : Int32) then (if inb x4 24 = true then bd (upA μ 78 (upd (μ 78) x4.toNatClampNeg (0 : Int32))) fun μ9 => ((f_X11_sheet_L75 n) μ9 x1 (x4 + (1 : Int32))) else none) else (if x1 = (1 : Int32) then (if inb x4 24 = true then bd (upA μ 79 (upd (μ 79) x4.toNatClampNeg (0 : Int32))) fun μ11 => ((f_X11_sheet_L75 n) μ11 x1 (x4 + (1 : Int32))) else none) else (if x1 = (2 : Int32) then (if inb x4 24 = true then bd (upA μ 80 (upd (μ 80) x4.toNatClampNeg (0 : Int32))) fun μ13 => ((f_X11_sheet_L75 n) μ13 x1 (x4 + (1 : Int32))) else none) else (if x1 = (3 : Int32) then (if inb x4 24 = true then bd (upA μ 81 (upd (μ 81) x4.toNatClampNeg (0 : Int32))) fun μ15 => ((f_X11_sheet_L75 n) μ15 x1 (x4 + (1 : Int32))) else none) else none)))))
def f_X11_sheet_L50 (μ : Mem) (x1 : Int32) (x2 : Int32) (x3 : Int32) : Option (Mem × Int32) := (if inb x1 4 = true then bd (upA μ 82 (upd (μ 82) x1.toNatClampNeg x2)) fun μ5 => ((if x2 = 0 then (if inb x1 4 = true then bd (upA μ5 83 (upd (μ5 83) x1.toNatClampNeg (0 : Int32))) fun μ17 => (f_X11_sheet_L75 fuel0 μ17 x1 (0 : Int32)) else none) else (if inb x1 4 = true then bd (upA μ5 83 (upd (μ5 83) x1.toNatClampNeg x3)) fun μ7 => (f_X11_sheet_L75 fuel0 μ7 x1 (0 : Int32)) else none))) else none)
def f_X11_sheet_L34 (μ : Mem) (x1 : Int32) (x2 : Int32) (x3 : Int32) : Option (Mem × Int32) := (if x2 = 0 then f_X11_sheet_L50 μ x1 x2 x3 else (if x3 ≤ (24 : Int32) then f_X11_sheet_L50 μ x1 x2 x3 else (f_X11_fails μ (1 : Int32)).bind fun q18 => (some (q18.1, q18.2))))
def f_X11_sheet (μ : Mem) (x1 : Int32) (x2 : Int32) (x3 : Int32) : Option (Mem × Int32) := (f_X11_isSheet x1).bind fun q1 => ((if q1 = 0 then (f_X11_fails μ (1 : Int32)).bind fun q2 => (some (q2.1, q2.2)) else (f_X11_isWidth x2).bind fun q3 => ((if q3 = 0 then (f_X11_fails μ (1 : Int32)).bind fun q20 => (some (q20.1, q20.2)) else (if x2 = 0 then f_X11_sheet_L34 μ x1 x2 x3 else (if 0 ≤ x3 then f_X11_sheet_L34 μ x1 x2 x3 else (f_X11_fails μ (3 : Int32)).bind fun q19 => (some (q19.1, q19.2))))))))
set_option maxHeartbeats 4000000 in
set_option maxRecDepth 20000 in
theorem c_X11_sheet (E : Ev) (h : Nat → Nat) (g : Nat → Option Nat) {μ : Mem} {x1 : Int32} {x2 : Int32} {x3 : Int32} {r : (Mem × Int32)} (hf : f_X11_sheet μ x1 x2 x3 = some r) : Ct E yX11_sheet cX11_sheet 5 (some .int) (rmOf 2 42) (wX E h g μ) (wX E h g r.1) [.ref (h 0), .int x1, .int x2, .int x3] (some (.int r.2)) := by
  refine ct_start RX11 1 (by decide) rfl (Nat.le_of_ble_eq_true rfl) ?_
  intro p l e s m args below meth c A Q X hr hlk hQ
  have lab75 : ∀ (n : Nat) (μ : Mem) (x1 : Int32) (x4 : Int32), f_X11_sheet_L75 n μ x1 x4 = some r → J p l e (rmOf 2 42) s m args below meth c E A 5 Q (wX E h g μ) [some (.ref (h 0)), some (.int x1), none, none, some (.int x4)] 75 [] := by
    intro n
    induction n with
    | zero => intro μ x1 x4 hf; cases (show none = some r from hf)
    | succ n ih =>
      intro μ x1 x4 hf
      rw [f_X11_sheet_L75] at hf
      refine j_iload X dX11_sheet_75 rfl ?_
      refine j_bipush (v := (24 : Int32)) X dX11_sheet_77 (by decide) ?_
      refine j_icmp_ge (tgt := 98) X dX11_sheet_79 (by decide) (fun c_79 => ?_) (fun c_79 => ?_)
      · replace hf := (if_pos c_79).symm.trans hf
        refine j_iconst (v := (1 : Int32)) X dX11_sheet_98 (by decide) ?_
        obtain rfl := Option.some.inj hf
        exact j_iret X hr hlk rfl dX11_sheet_99 hQ
      · replace hf := (if_neg c_79).symm.trans hf
        refine j_aload_n X dX11_sheet_82 rfl rfl ?_
        refine j_get (C := RX11) (T := TX11) (N := 10) X iX11 0 (wX_0 ..) rfl 5 (by decide) k_315 rfl rfl dX11_sheet_83 ?_
        refine j_iload_n X dX11_sheet_86 rfl rfl ?_
        by_cases n_87_0 : x1 = (0 : Int32)
        · replace hf := (if_pos n_87_0).symm.trans hf
          refine j_aald4 X 77 (wX_77 ..) (b := h 78) (by rw [n_87_0]; unfold vp_in; decide) (by rw [n_87_0]; rfl) dX11_sheet_87 ?_
          refine j_iload X dX11_sheet_88 rfl ?_
          refine j_iconst (v := (0 : Int32)) X dX11_sheet_90 (by decide) ?_
          obtain ⟨c8, hf⟩ := oi_in hf
          obtain ⟨μ9, e_μ9, hf⟩ := bd_e hf
          refine j_iast X 78 (wX_78 ..) c8 dX11_sheet_91 (ws' := (wX E h g μ9)) (by rw [e_μ9]; exact wX_s78 ..) ?_
          refine j_iinc4 (k := (1 : Int32)) X dX11_sheet_92 (by decide) (by decide) rfl ?_
          refine j_goto (tgt := 75) X dX11_sheet_95 (by decide) ?_
          refine j_keep [true, true, false, false, true] rfl ?_
          exact ih _ _ _ hf
        · replace hf := (if_neg n_87_0).symm.trans hf
          by_cases n_87_1 : x1 = (1 : Int32)
          · replace hf := (if_pos n_87_1).symm.trans hf
            refine j_aald4 X 77 (wX_77 ..) (b := h 79) (by rw [n_87_1]; unfold vp_in; decide) (by rw [n_87_1]; rfl) dX11_sheet_87 ?_
            refine j_iload X dX11_sheet_88 rfl ?_
            refine j_iconst (v := (0 : Int32)) X dX11_sheet_90 (by decide) ?_
            obtain ⟨c10, hf⟩ := oi_in hf
            obtain ⟨μ11, e_μ11, hf⟩ := bd_e hf
            refine j_iast X 79 (wX_79 ..) c10 dX11_sheet_91 (ws' := (wX E h g μ11)) (by rw [e_μ11]; exact wX_s79 ..) ?_
            refine j_iinc4 (k := (1 : Int32)) X dX11_sheet_92 (by decide) (by decide) rfl ?_
            refine j_goto (tgt := 75) X dX11_sheet_95 (by decide) ?_
            refine j_keep [true, true, false, false, true] rfl ?_
            exact ih _ _ _ hf
          · replace hf := (if_neg n_87_1).symm.trans hf
            by_cases n_87_2 : x1 = (2 : Int32)
            · replace hf := (if_pos n_87_2).symm.trans hf
              refine j_aald4 X 77 (wX_77 ..) (b := h 80) (by rw [n_87_2]; unfold vp_in; decide) (by rw [n_87_2]; rfl) dX11_sheet_87 ?_
              refine j_iload X dX11_sheet_88 rfl ?_
              refine j_iconst (v := (0 : Int32)) X dX11_sheet_90 (by decide) ?_
              obtain ⟨c12, hf⟩ := oi_in hf
              obtain ⟨μ13, e_μ13, hf⟩ := bd_e hf
              refine j_iast X 80 (wX_80 ..) c12 dX11_sheet_91 (ws' := (wX E h g μ13)) (by rw [e_μ13]; exact wX_s80 ..) ?_
              refine j_iinc4 (k := (1 : Int32)) X dX11_sheet_92 (by decide) (by decide) rfl ?_
              refine j_goto (tgt := 75) X dX11_sheet_95 (by decide) ?_
              refine j_keep [true, true, false, false, true] rfl ?_
              exact ih _ _ _ hf
            · replace hf := (if_neg n_87_2).symm.trans hf
              by_cases n_87_3 : x1 = (3 : Int32)
              · replace hf := (if_pos n_87_3).symm.trans hf
                refine j_aald4 X 77 (wX_77 ..) (b := h 81) (by rw [n_87_3]; unfold vp_in; decide) (by rw [n_87_3]; rfl) dX11_sheet_87 ?_
                refine j_iload X dX11_sheet_88 rfl ?_
                refine j_iconst (v := (0 : Int32)) X dX11_sheet_90 (by decide) ?_
                obtain ⟨c14, hf⟩ := oi_in hf
                obtain ⟨μ15, e_μ15, hf⟩ := bd_e hf
                refine j_iast X 81 (wX_81 ..) c14 dX11_sheet_91 (ws' := (wX E h g μ15)) (by rw [e_μ15]; exact wX_s81 ..) ?_
                refine j_iinc4 (k := (1 : Int32)) X dX11_sheet_92 (by decide) (by decide) rfl ?_
                refine j_goto (tgt := 75) X dX11_sheet_95 (by decide) ?_
                refine j_keep [true, true, false, false, true] rfl ?_
                exact ih _ _ _ hf
              · replace hf := (if_neg n_87_3).symm.trans hf
                cases hf
  have lab50 : ∀ (μ : Mem) (x1 : Int32) (x2 : Int32) (x3 : Int32), f_X11_sheet_L50 μ x1 x2 x3 = some r → J p l e (rmOf 2 42) s m args below meth c E A 5 Q (wX E h g μ) [some (.ref (h 0)), some (.int x1), some (.int x2), some (.int x3), none] 50 [] := by
    intro  μ x1 x2 x3 hf
    rw [f_X11_sheet_L50] at hf
    refine j_aload_n X dX11_sheet_50 rfl rfl ?_
    refine j_get (C := RX11) (T := TX11) (N := 10) X iX11 0 (wX_0 ..) rfl 6 (by decide) k_316 rfl rfl dX11_sheet_51 ?_
    refine j_iload_n X dX11_sheet_54 rfl rfl ?_
    refine j_iload_n X dX11_sheet_55 rfl rfl ?_
    obtain ⟨c4, hf⟩ := oi_in hf
    obtain ⟨μ5, e_μ5, hf⟩ := bd_e hf
    refine j_iast X 82 (wX_82 ..) c4 dX11_sheet_56 (ws' := (wX E h g μ5)) (by rw [e_μ5]; exact wX_s82 ..) ?_
    refine j_aload_n X dX11_sheet_57 rfl rfl ?_
    refine j_get (C := RX11) (T := TX11) (N := 10) X iX11 0 (wX_0 ..) rfl 7 (by decide) k_317 rfl rfl dX11_sheet_58 ?_
    refine j_iload_n X dX11_sheet_61 rfl rfl ?_
    refine j_iload_n X dX11_sheet_62 rfl rfl ?_
    refine j_if_ne (tgt := 70) X dX11_sheet_63 (by decide) (fun c_63 => ?_) (fun c_63 => ?_)
    · replace hf := (if_neg c_63).symm.trans hf
      refine j_iload_n X dX11_sheet_70 rfl rfl ?_
      obtain ⟨c6, hf⟩ := oi_in hf
      obtain ⟨μ7, e_μ7, hf⟩ := bd_e hf
      refine j_iast X 83 (wX_83 ..) c6 dX11_sheet_71 (ws' := (wX E h g μ7)) (by rw [e_μ7]; exact wX_s83 ..) ?_
      refine j_iconst (v := (0 : Int32)) X dX11_sheet_72 (by decide) ?_
      refine j_istore4 X dX11_sheet_73 (by decide) rfl ?_
      refine j_keep [true, true, false, false, true] rfl ?_
      exact lab75 _ _ _ _ hf
    · replace hf := (if_pos c_63).symm.trans hf
      refine j_iconst (v := (0 : Int32)) X dX11_sheet_66 (by decide) ?_
      refine j_goto (tgt := 71) X dX11_sheet_67 (by decide) ?_
      obtain ⟨c16, hf⟩ := oi_in hf
      obtain ⟨μ17, e_μ17, hf⟩ := bd_e hf
      refine j_iast X 83 (wX_83 ..) c16 dX11_sheet_71 (ws' := (wX E h g μ17)) (by rw [e_μ17]; exact wX_s83 ..) ?_
      refine j_iconst (v := (0 : Int32)) X dX11_sheet_72 (by decide) ?_
      refine j_istore4 X dX11_sheet_73 (by decide) rfl ?_
      refine j_keep [true, true, false, false, true] rfl ?_
      exact lab75 _ _ _ _ hf
  have lab34 : ∀ (μ : Mem) (x1 : Int32) (x2 : Int32) (x3 : Int32), f_X11_sheet_L34 μ x1 x2 x3 = some r → J p l e (rmOf 2 42) s m args below meth c E A 5 Q (wX E h g μ) [some (.ref (h 0)), some (.int x1), some (.int x2), some (.int x3), none] 34 [] := by
    intro  μ x1 x2 x3 hf
    rw [f_X11_sheet_L34] at hf
    refine j_iload_n X dX11_sheet_34 rfl rfl ?_
    refine j_if_eq (tgt := 50) X dX11_sheet_35 (by decide) (fun c_35 => ?_) (fun c_35 => ?_)
    · replace hf := (if_pos c_35).symm.trans hf
      refine j_keep [true, true, true, true, false] rfl ?_
      exact lab50 _ _ _ _ hf
    · replace hf := (if_neg c_35).symm.trans hf
      refine j_iload_n X dX11_sheet_38 rfl rfl ?_
      refine j_bipush (v := (24 : Int32)) X dX11_sheet_39 (by decide) ?_
      refine j_icmp_le (tgt := 50) X dX11_sheet_41 (by decide) (fun c_41 => ?_) (fun c_41 => ?_)
      · replace hf := (if_pos c_41).symm.trans hf
        refine j_keep [true, true, true, true, false] rfl ?_
        exact lab50 _ _ _ _ hf
      · replace hf := (if_neg c_41).symm.trans hf
        refine j_aload_n X dX11_sheet_44 rfl rfl ?_
        refine j_iconst (v := (1 : Int32)) X dX11_sheet_45 (by decide) ?_
        obtain ⟨q18, g_q18, hf⟩ := ob_t hf
        refine j_callV X [0, 1, 2, 3, 4, 5, 6, 7, 8, 9, 10, 11, 12, 13, 14, 15, 16, 17, 18, 19, 20, 21, 22, 23, 24, 25, 26, 27, 28, 29, 30, 31, 32, 33, 34, 35, 36, 37, 38, 39, 40, 41, 42, 43, 44, 45, 46, 47, 48, 49, 50, 51, 52, 53, 54, 55, 56, 57, 58, 59, 60, 61, 62, 63, 64, 65, 66, 67, 68, 69, 70, 71, 72, 73, 74, 75, 76, 77, 78, 79, 80, 81, 82, 83, 84] 0 (c_X11_fails E h g g_q18) (cut_wX_wX_c ..) rfl rfl (ws' := (wX E h g q18.1)) (cut_wX_wX_w ..) (wX_0 ..) rfl k_351 k_353 k_0 k_68 k_354 (⟨rfl, rfl⟩) hdV_X11_fails ⟨Nat.le_of_ble_eq_true rfl, Nat.le_of_ble_eq_true rfl⟩ rfl (Nat.le_of_ble_eq_true rfl) rfl dX11_sheet_46 ?_
        obtain rfl := Option.some.inj hf
        exact j_iret X hr hlk rfl dX11_sheet_49 hQ
  rw [f_X11_sheet] at hf
  refine j_iload_n X dX11_sheet_0 rfl rfl ?_
  obtain ⟨q1, g_q1, hf⟩ := ob_t hf
  refine j_callS X [] (c_X11_isSheet E g_q1) rfl rfl rfl (ws' := (wX E h g μ)) rfl k_716 k_717 k_68 k_718 (⟨rfl, rfl⟩) hdS_X11_isSheet ⟨Nat.le_of_ble_eq_true rfl, Nat.le_of_ble_eq_true rfl⟩ rfl (Nat.le_of_ble_eq_true rfl) rfl dX11_sheet_1 ?_
  refine j_if_eq (tgt := 14) X dX11_sheet_4 (by decide) (fun c_4 => ?_) (fun c_4 => ?_)
  · replace hf := (if_pos c_4).symm.trans hf
    refine j_aload_n X dX11_sheet_14 rfl rfl ?_
    refine j_iconst (v := (1 : Int32)) X dX11_sheet_15 (by decide) ?_
    obtain ⟨q2, g_q2, hf⟩ := ob_t hf
    refine j_callV X [0, 1, 2, 3, 4, 5, 6, 7, 8, 9, 10, 11, 12, 13, 14, 15, 16, 17, 18, 19, 20, 21, 22, 23, 24, 25, 26, 27, 28, 29, 30, 31, 32, 33, 34, 35, 36, 37, 38, 39, 40, 41, 42, 43, 44, 45, 46, 47, 48, 49, 50, 51, 52, 53, 54, 55, 56, 57, 58, 59, 60, 61, 62, 63, 64, 65, 66, 67, 68, 69, 70, 71, 72, 73, 74, 75, 76, 77, 78, 79, 80, 81, 82, 83, 84] 0 (c_X11_fails E h g g_q2) (cut_wX_wX_c ..) rfl rfl (ws' := (wX E h g q2.1)) (cut_wX_wX_w ..) (wX_0 ..) rfl k_351 k_353 k_0 k_68 k_354 (⟨rfl, rfl⟩) hdV_X11_fails ⟨Nat.le_of_ble_eq_true rfl, Nat.le_of_ble_eq_true rfl⟩ rfl (Nat.le_of_ble_eq_true rfl) rfl dX11_sheet_16 ?_
    obtain rfl := Option.some.inj hf
    exact j_iret X hr hlk rfl dX11_sheet_19 hQ
  · replace hf := (if_neg c_4).symm.trans hf
    refine j_iload_n X dX11_sheet_7 rfl rfl ?_
    obtain ⟨q3, g_q3, hf⟩ := ob_t hf
    refine j_callS X [] (c_X11_isWidth E g_q3) rfl rfl rfl (ws' := (wX E h g μ)) rfl k_839 k_840 k_68 k_841 (⟨rfl, rfl⟩) hdS_X11_isWidth ⟨Nat.le_of_ble_eq_true rfl, Nat.le_of_ble_eq_true rfl⟩ rfl (Nat.le_of_ble_eq_true rfl) rfl dX11_sheet_8 ?_
    refine j_if_ne (tgt := 20) X dX11_sheet_11 (by decide) (fun c_11 => ?_) (fun c_11 => ?_)
    · replace hf := (if_neg c_11).symm.trans hf
      refine j_iload_n X dX11_sheet_20 rfl rfl ?_
      refine j_if_eq (tgt := 34) X dX11_sheet_21 (by decide) (fun c_21 => ?_) (fun c_21 => ?_)
      · replace hf := (if_pos c_21).symm.trans hf
        refine j_keep [true, true, true, true, false] rfl ?_
        exact lab34 _ _ _ _ hf
      · replace hf := (if_neg c_21).symm.trans hf
        refine j_iload_n X dX11_sheet_24 rfl rfl ?_
        refine j_if_ge (tgt := 34) X dX11_sheet_25 (by decide) (fun c_25 => ?_) (fun c_25 => ?_)
        · replace hf := (if_pos c_25).symm.trans hf
          refine j_keep [true, true, true, true, false] rfl ?_
          exact lab34 _ _ _ _ hf
        · replace hf := (if_neg c_25).symm.trans hf
          refine j_aload_n X dX11_sheet_28 rfl rfl ?_
          refine j_iconst (v := (3 : Int32)) X dX11_sheet_29 (by decide) ?_
          obtain ⟨q19, g_q19, hf⟩ := ob_t hf
          refine j_callV X [0, 1, 2, 3, 4, 5, 6, 7, 8, 9, 10, 11, 12, 13, 14, 15, 16, 17, 18, 19, 20, 21, 22, 23, 24, 25, 26, 27, 28, 29, 30, 31, 32, 33, 34, 35, 36, 37, 38, 39, 40, 41, 42, 43, 44, 45, 46, 47, 48, 49, 50, 51, 52, 53, 54, 55, 56, 57, 58, 59, 60, 61, 62, 63, 64, 65, 66, 67, 68, 69, 70, 71, 72, 73, 74, 75, 76, 77, 78, 79, 80, 81, 82, 83, 84] 0 (c_X11_fails E h g g_q19) (cut_wX_wX_c ..) rfl rfl (ws' := (wX E h g q19.1)) (cut_wX_wX_w ..) (wX_0 ..) rfl k_351 k_353 k_0 k_68 k_354 (⟨rfl, rfl⟩) hdV_X11_fails ⟨Nat.le_of_ble_eq_true rfl, Nat.le_of_ble_eq_true rfl⟩ rfl (Nat.le_of_ble_eq_true rfl) rfl dX11_sheet_30 ?_
          obtain rfl := Option.some.inj hf
          exact j_iret X hr hlk rfl dX11_sheet_33 hQ
    · replace hf := (if_pos c_11).symm.trans hf
      refine j_aload_n X dX11_sheet_14 rfl rfl ?_
      refine j_iconst (v := (1 : Int32)) X dX11_sheet_15 (by decide) ?_
      obtain ⟨q20, g_q20, hf⟩ := ob_t hf
      refine j_callV X [0, 1, 2, 3, 4, 5, 6, 7, 8, 9, 10, 11, 12, 13, 14, 15, 16, 17, 18, 19, 20, 21, 22, 23, 24, 25, 26, 27, 28, 29, 30, 31, 32, 33, 34, 35, 36, 37, 38, 39, 40, 41, 42, 43, 44, 45, 46, 47, 48, 49, 50, 51, 52, 53, 54, 55, 56, 57, 58, 59, 60, 61, 62, 63, 64, 65, 66, 67, 68, 69, 70, 71, 72, 73, 74, 75, 76, 77, 78, 79, 80, 81, 82, 83, 84] 0 (c_X11_fails E h g g_q20) (cut_wX_wX_c ..) rfl rfl (ws' := (wX E h g q20.1)) (cut_wX_wX_w ..) (wX_0 ..) rfl k_351 k_353 k_0 k_68 k_354 (⟨rfl, rfl⟩) hdV_X11_fails ⟨Nat.le_of_ble_eq_true rfl, Nat.le_of_ble_eq_true rfl⟩ rfl (Nat.le_of_ble_eq_true rfl) rfl dX11_sheet_16 ?_
      obtain rfl := Option.some.inj hf
      exact j_iret X hr hlk rfl dX11_sheet_19 hQ
def f_X11_lowestBits (x0 : Int32) (x1 : Int32) : Option Int32 := (if x0 = (8 : Int32) then some x1.toInt8.toInt32 else (if x0 = (16 : Int32) then some x1.toInt16.toInt32 else some x1))
set_option maxHeartbeats 4000000 in
set_option maxRecDepth 20000 in
theorem c_X11_lowestBits (E : Ev) {x0 : Int32} {x1 : Int32} {r : Int32} (hf : f_X11_lowestBits x0 x1 = some r) : Ct E yX11_lowestBits cX11_lowestBits 2 (some .int) (rmOf 0 0) [] [] [.int x0, .int x1] (some (.int r)) := by
  refine ct_start RX11 0 (by decide) rfl (Nat.le_of_ble_eq_true rfl) ?_
  intro p l e s m args below meth c A Q X hr hlk hQ
  rw [f_X11_lowestBits] at hf
  refine j_iload_n X dX11_lowestBits_0 rfl rfl ?_
  by_cases n_1_0 : x0 = (8 : Int32)
  · replace hf := (if_pos n_1_0).symm.trans hf
    refine j_lsw (off := 27) (tgt := 28) X dX11_lowestBits_1 (by decide) (by rw [n_1_0]; decide) (by decide) ?_
    refine j_iload_n X dX11_lowestBits_28 rfl rfl ?_
    refine j_i2b X dX11_lowestBits_29 ?_
    obtain rfl := Option.some.inj hf
    exact j_iret X hr hlk rfl dX11_lowestBits_30 hQ
  · replace hf := (if_neg n_1_0).symm.trans hf
    by_cases n_1_1 : x0 = (16 : Int32)
    · replace hf := (if_pos n_1_1).symm.trans hf
      refine j_lsw (off := 30) (tgt := 31) X dX11_lowestBits_1 (by decide) (by rw [n_1_1]; decide) (by decide) ?_
      refine j_iload_n X dX11_lowestBits_31 rfl rfl ?_
      refine j_i2s X dX11_lowestBits_32 ?_
      obtain rfl := Option.some.inj hf
      exact j_iret X hr hlk rfl dX11_lowestBits_33 hQ
    · replace hf := (if_neg n_1_1).symm.trans hf
      refine j_lsw (off := 33) (tgt := 34) X dX11_lowestBits_1 (by decide) ((lv_osw n_1_0 rfl).trans <| (lv_osw n_1_1 rfl).trans <| rfl) (by decide) ?_
      refine j_iload_n X dX11_lowestBits_34 rfl rfl ?_
      obtain rfl := Option.some.inj hf
      exact j_iret X hr hlk rfl dX11_lowestBits_35 hQ
def f_X11_put (μ : Mem) (x1 : Int32) (x2 : Int32) (x3 : Int32) : Option (Mem × Int32) := (f_X11_isSheet x1).bind fun q1 => ((if q1 = 0 then (f_X11_fails μ (1 : Int32)).bind fun q23 => (some (q23.1, q23.2)) else (f_X11_isMissing μ x1).bind fun q2 => ((if q2.2 = 0 then (if inb x1 4 = true then (f_X11_within x2 (0 : Int32) ((q2.1 83 x1.toNatClampNeg) - (1 : Int32))).bind fun q4 => ((if q4 = 0 then (f_X11_fails q2.1 (1 : Int32)).bind fun q21 => (some (q21.1, q21.2)) else (if x1 = (0 : Int32) then (if inb x1 4 = true then (f_X11_lowestBits (q2.1 82 x1.toNatClampNeg) x3).bind fun q6 => ((if inb x2 24 = true then bd (upA q2.1 78 (upd (q2.1 78) x2.toNatClampNeg q6)) fun μ8 => (some (μ8, (1 : Int32))) else none)) else none) else (if x1 = (1 : Int32) then (if inb x1 4 = true then (f_X11_lowestBits (q2.1 82 x1.toNatClampNeg) x3).bind fun q10 => ((if inb x2 24 = true then bd (upA q2.1 79 (upd (q2.1 79) x2.toNatClampNeg q10)) fun μ12 => (some (μ12, (1 : Int32))) else none)) else none) else (if x1 = (2 : Int32) then (if inb x1 4 = true then (f_X11_lowestBits (q2.1 82 x1.toNatClampNeg) x3).bind fun q14 => ((if inb x2 24 = true then bd (upA q2.1 80 (upd (q2.1 80) x2.toNatClampNeg q14)) fun μ16 => (some (μ16, (1 : Int32))) else none)) else none) else (if x1 = (3 : Int32) then (if inb x1 4 = true then (f_X11_lowestBits (q2.1 82 x1.toNatClampNeg) x3).bind fun q18 => ((if inb x2 24 = true then bd (upA q2.1 81 (upd (q2.1 81) x2.toNatClampNeg q18)) fun μ20 => (some (μ20, (1 : Int32))) else none)) else none) else none)))))) else none) else (f_X11_fails q2.1 (2 : Int32)).bind fun q22 => (some (q22.1, q22.2))))))
set_option maxHeartbeats 4000000 in
set_option maxRecDepth 20000 in
theorem c_X11_put (E : Ev) (h : Nat → Nat) (g : Nat → Option Nat) {μ : Mem} {x1 : Int32} {x2 : Int32} {x3 : Int32} {r : (Mem × Int32)} (hf : f_X11_put μ x1 x2 x3 = some r) : Ct E yX11_put cX11_put 4 (some .int) (rmOf 2 42) (wX E h g μ) (wX E h g r.1) [.ref (h 0), .int x1, .int x2, .int x3] (some (.int r.2)) := by
  refine ct_start RX11 0 (by decide) rfl (Nat.le_of_ble_eq_true rfl) ?_
  intro p l e s m args below meth c A Q X hr hlk hQ
  rw [f_X11_put] at hf
  refine j_iload_n X dX11_put_0 rfl rfl ?_
  obtain ⟨q1, g_q1, hf⟩ := ob_t hf
  refine j_callS X [] (c_X11_isSheet E g_q1) rfl rfl rfl (ws' := (wX E h g μ)) rfl k_716 k_717 k_68 k_718 (⟨rfl, rfl⟩) hdS_X11_isSheet ⟨Nat.le_of_ble_eq_true rfl, Nat.le_of_ble_eq_true rfl⟩ rfl (Nat.le_of_ble_eq_true rfl) rfl dX11_put_1 ?_
  refine j_if_ne (tgt := 13) X dX11_put_4 (by decide) (fun c_4 => ?_) (fun c_4 => ?_)
  · replace hf := (if_neg c_4).symm.trans hf
    refine j_aload_n X dX11_put_13 rfl rfl ?_
    refine j_iload_n X dX11_put_14 rfl rfl ?_
    obtain ⟨q2, g_q2, hf⟩ := ob_t hf
    refine j_callV X [0, 1, 2, 3, 4, 5, 6, 7, 8, 9, 10, 11, 12, 13, 14, 15, 16, 17, 18, 19, 20, 21, 22, 23, 24, 25, 26, 27, 28, 29, 30, 31, 32, 33, 34, 35, 36, 37, 38, 39, 40, 41, 42, 43, 44, 45, 46, 47, 48, 49, 50, 51, 52, 53, 54, 55, 56, 57, 58, 59, 60, 61, 62, 63, 64, 65, 66, 67, 68, 69, 70, 71, 72, 73, 74, 75, 76, 77, 78, 79, 80, 81, 82, 83, 84] 0 (c_X11_isMissing E h g g_q2) (cut_wX_wX_c ..) rfl rfl (ws' := (wX E h g q2.1)) (cut_wX_wX_w ..) (wX_0 ..) rfl k_719 k_721 k_21 k_68 k_722 (⟨rfl, rfl⟩) hdV_X11_isMissing ⟨Nat.le_of_ble_eq_true rfl, Nat.le_of_ble_eq_true rfl⟩ rfl (Nat.le_of_ble_eq_true rfl) rfl dX11_put_15 ?_
    refine j_if_eq (tgt := 27) X dX11_put_18 (by decide) (fun c_18 => ?_) (fun c_18 => ?_)
    · replace hf := (if_pos c_18).symm.trans hf
      refine j_iload_n X dX11_put_27 rfl rfl ?_
      refine j_iconst (v := (0 : Int32)) X dX11_put_28 (by decide) ?_
      refine j_aload_n X dX11_put_29 rfl rfl ?_
      refine j_get (C := RX11) (T := TX11) (N := 10) X iX11 0 (wX_0 ..) rfl 7 (by decide) k_317 rfl rfl dX11_put_30 ?_
      refine j_iload_n X dX11_put_33 rfl rfl ?_
      obtain ⟨c3, hf⟩ := oi_in hf
      refine j_iald X 83 (wX_83 ..) c3 dX11_put_34 ?_
      refine j_iconst (v := (1 : Int32)) X dX11_put_35 (by decide) ?_
      refine j_isub X dX11_put_36 ?_
      obtain ⟨q4, g_q4, hf⟩ := ob_t hf
      refine j_callS X [] (c_X11_within E g_q4) rfl rfl rfl (ws' := (wX E h g q2.1)) rfl k_348 k_349 k_68 k_350 (⟨rfl, rfl⟩) hdS_X11_within ⟨Nat.le_of_ble_eq_true rfl, Nat.le_of_ble_eq_true rfl⟩ rfl (Nat.le_of_ble_eq_true rfl) rfl dX11_put_37 ?_
      refine j_if_ne (tgt := 49) X dX11_put_40 (by decide) (fun c_40 => ?_) (fun c_40 => ?_)
      · replace hf := (if_neg c_40).symm.trans hf
        refine j_aload_n X dX11_put_49 rfl rfl ?_
        refine j_get (C := RX11) (T := TX11) (N := 10) X iX11 0 (wX_0 ..) rfl 5 (by decide) k_315 rfl rfl dX11_put_50 ?_
        refine j_iload_n X dX11_put_53 rfl rfl ?_
        by_cases n_54_0 : x1 = (0 : Int32)
        · replace hf := (if_pos n_54_0).symm.trans hf
          refine j_aald4 X 77 (wX_77 ..) (b := h 78) (by rw [n_54_0]; unfold vp_in; decide) (by rw [n_54_0]; rfl) dX11_put_54 ?_
          refine j_iload_n X dX11_put_55 rfl rfl ?_
          refine j_aload_n X dX11_put_56 rfl rfl ?_
          refine j_get (C := RX11) (T := TX11) (N := 10) X iX11 0 (wX_0 ..) rfl 6 (by decide) k_316 rfl rfl dX11_put_57 ?_
          refine j_iload_n X dX11_put_60 rfl rfl ?_
          obtain ⟨c5, hf⟩ := oi_in hf
          refine j_iald X 82 (wX_82 ..) c5 dX11_put_61 ?_
          refine j_iload_n X dX11_put_62 rfl rfl ?_
          obtain ⟨q6, g_q6, hf⟩ := ob_t hf
          refine j_callS X [] (c_X11_lowestBits E g_q6) rfl rfl rfl (ws' := (wX E h g q2.1)) rfl k_846 k_847 k_68 k_848 (⟨rfl, rfl⟩) hdS_X11_lowestBits ⟨Nat.le_of_ble_eq_true rfl, Nat.le_of_ble_eq_true rfl⟩ rfl (Nat.le_of_ble_eq_true rfl) rfl dX11_put_63 ?_
          obtain ⟨c7, hf⟩ := oi_in hf
          obtain ⟨μ8, e_μ8, hf⟩ := bd_e hf
          refine j_iast X 78 (wX_78 ..) c7 dX11_put_66 (ws' := (wX E h g μ8)) (by rw [e_μ8]; exact wX_s78 ..) ?_
          refine j_iconst (v := (1 : Int32)) X dX11_put_67 (by decide) ?_
          obtain rfl := Option.some.inj hf
          exact j_iret X hr hlk rfl dX11_put_68 hQ
        · replace hf := (if_neg n_54_0).symm.trans hf
          by_cases n_54_1 : x1 = (1 : Int32)
          · replace hf := (if_pos n_54_1).symm.trans hf
            refine j_aald4 X 77 (wX_77 ..) (b := h 79) (by rw [n_54_1]; unfold vp_in; decide) (by rw [n_54_1]; rfl) dX11_put_54 ?_
            refine j_iload_n X dX11_put_55 rfl rfl ?_
            refine j_aload_n X dX11_put_56 rfl rfl ?_
            refine j_get (C := RX11) (T := TX11) (N := 10) X iX11 0 (wX_0 ..) rfl 6 (by decide) k_316 rfl rfl dX11_put_57 ?_
            refine j_iload_n X dX11_put_60 rfl rfl ?_
            obtain ⟨c9, hf⟩ := oi_in hf
            refine j_iald X 82 (wX_82 ..) c9 dX11_put_61 ?_
            refine j_iload_n X dX11_put_62 rfl rfl ?_
            obtain ⟨q10, g_q10, hf⟩ := ob_t hf
            refine j_callS X [] (c_X11_lowestBits E g_q10) rfl rfl rfl (ws' := (wX E h g q2.1)) rfl k_846 k_847 k_68 k_848 (⟨rfl, rfl⟩) hdS_X11_lowestBits ⟨Nat.le_of_ble_eq_true rfl, Nat.le_of_ble_eq_true rfl⟩ rfl (Nat.le_of_ble_eq_true rfl) rfl dX11_put_63 ?_
            obtain ⟨c11, hf⟩ := oi_in hf
            obtain ⟨μ12, e_μ12, hf⟩ := bd_e hf
            refine j_iast X 79 (wX_79 ..) c11 dX11_put_66 (ws' := (wX E h g μ12)) (by rw [e_μ12]; exact wX_s79 ..) ?_
            refine j_iconst (v := (1 : Int32)) X dX11_put_67 (by decide) ?_
            obtain rfl := Option.some.inj hf
            exact j_iret X hr hlk rfl dX11_put_68 hQ
          · replace hf := (if_neg n_54_1).symm.trans hf
            by_cases n_54_2 : x1 = (2 : Int32)
            · replace hf := (if_pos n_54_2).symm.trans hf
              refine j_aald4 X 77 (wX_77 ..) (b := h 80) (by rw [n_54_2]; unfold vp_in; decide) (by rw [n_54_2]; rfl) dX11_put_54 ?_
              refine j_iload_n X dX11_put_55 rfl rfl ?_
              refine j_aload_n X dX11_put_56 rfl rfl ?_
              refine j_get (C := RX11) (T := TX11) (N := 10) X iX11 0 (wX_0 ..) rfl 6 (by decide) k_316 rfl rfl dX11_put_57 ?_
              refine j_iload_n X dX11_put_60 rfl rfl ?_
              obtain ⟨c13, hf⟩ := oi_in hf
              refine j_iald X 82 (wX_82 ..) c13 dX11_put_61 ?_
              refine j_iload_n X dX11_put_62 rfl rfl ?_
              obtain ⟨q14, g_q14, hf⟩ := ob_t hf
              refine j_callS X [] (c_X11_lowestBits E g_q14) rfl rfl rfl (ws' := (wX E h g q2.1)) rfl k_846 k_847 k_68 k_848 (⟨rfl, rfl⟩) hdS_X11_lowestBits ⟨Nat.le_of_ble_eq_true rfl, Nat.le_of_ble_eq_true rfl⟩ rfl (Nat.le_of_ble_eq_true rfl) rfl dX11_put_63 ?_
              obtain ⟨c15, hf⟩ := oi_in hf
              obtain ⟨μ16, e_μ16, hf⟩ := bd_e hf
              refine j_iast X 80 (wX_80 ..) c15 dX11_put_66 (ws' := (wX E h g μ16)) (by rw [e_μ16]; exact wX_s80 ..) ?_
              refine j_iconst (v := (1 : Int32)) X dX11_put_67 (by decide) ?_
              obtain rfl := Option.some.inj hf
              exact j_iret X hr hlk rfl dX11_put_68 hQ
            · replace hf := (if_neg n_54_2).symm.trans hf
              by_cases n_54_3 : x1 = (3 : Int32)
              · replace hf := (if_pos n_54_3).symm.trans hf
                refine j_aald4 X 77 (wX_77 ..) (b := h 81) (by rw [n_54_3]; unfold vp_in; decide) (by rw [n_54_3]; rfl) dX11_put_54 ?_
                refine j_iload_n X dX11_put_55 rfl rfl ?_
                refine j_aload_n X dX11_put_56 rfl rfl ?_
                refine j_get (C := RX11) (T := TX11) (N := 10) X iX11 0 (wX_0 ..) rfl 6 (by decide) k_316 rfl rfl dX11_put_57 ?_
                refine j_iload_n X dX11_put_60 rfl rfl ?_
                obtain ⟨c17, hf⟩ := oi_in hf
                refine j_iald X 82 (wX_82 ..) c17 dX11_put_61 ?_
                refine j_iload_n X dX11_put_62 rfl rfl ?_
                obtain ⟨q18, g_q18, hf⟩ := ob_t hf
                refine j_callS X [] (c_X11_lowestBits E g_q18) rfl rfl rfl (ws' := (wX E h g q2.1)) rfl k_846 k_847 k_68 k_848 (⟨rfl, rfl⟩) hdS_X11_lowestBits ⟨Nat.le_of_ble_eq_true rfl, Nat.le_of_ble_eq_true rfl⟩ rfl (Nat.le_of_ble_eq_true rfl) rfl dX11_put_63 ?_
                obtain ⟨c19, hf⟩ := oi_in hf
                obtain ⟨μ20, e_μ20, hf⟩ := bd_e hf
                refine j_iast X 81 (wX_81 ..) c19 dX11_put_66 (ws' := (wX E h g μ20)) (by rw [e_μ20]; exact wX_s81 ..) ?_
                refine j_iconst (v := (1 : Int32)) X dX11_put_67 (by decide) ?_
                obtain rfl := Option.some.inj hf
                exact j_iret X hr hlk rfl dX11_put_68 hQ
              · replace hf := (if_neg n_54_3).symm.trans hf
                cases hf
      · replace hf := (if_pos c_40).symm.trans hf
        refine j_aload_n X dX11_put_43 rfl rfl ?_
        refine j_iconst (v := (1 : Int32)) X dX11_put_44 (by decide) ?_
        obtain ⟨q21, g_q21, hf⟩ := ob_t hf
        refine j_callV X [0, 1, 2, 3, 4, 5, 6, 7, 8, 9, 10, 11, 12, 13, 14, 15, 16, 17, 18, 19, 20, 21, 22, 23, 24, 25, 26, 27, 28, 29, 30, 31, 32, 33, 34, 35, 36, 37, 38, 39, 40, 41, 42, 43, 44, 45, 46, 47, 48, 49, 50, 51, 52, 53, 54, 55, 56, 57, 58, 59, 60, 61, 62, 63, 64, 65, 66, 67, 68, 69, 70, 71, 72, 73, 74, 75, 76, 77, 78, 79, 80, 81, 82, 83, 84] 0 (c_X11_fails E h g g_q21) (cut_wX_wX_c ..) rfl rfl (ws' := (wX E h g q21.1)) (cut_wX_wX_w ..) (wX_0 ..) rfl k_351 k_353 k_0 k_68 k_354 (⟨rfl, rfl⟩) hdV_X11_fails ⟨Nat.le_of_ble_eq_true rfl, Nat.le_of_ble_eq_true rfl⟩ rfl (Nat.le_of_ble_eq_true rfl) rfl dX11_put_45 ?_
        obtain rfl := Option.some.inj hf
        exact j_iret X hr hlk rfl dX11_put_48 hQ
    · replace hf := (if_neg c_18).symm.trans hf
      refine j_aload_n X dX11_put_21 rfl rfl ?_
      refine j_iconst (v := (2 : Int32)) X dX11_put_22 (by decide) ?_
      obtain ⟨q22, g_q22, hf⟩ := ob_t hf
      refine j_callV X [0, 1, 2, 3, 4, 5, 6, 7, 8, 9, 10, 11, 12, 13, 14, 15, 16, 17, 18, 19, 20, 21, 22, 23, 24, 25, 26, 27, 28, 29, 30, 31, 32, 33, 34, 35, 36, 37, 38, 39, 40, 41, 42, 43, 44, 45, 46, 47, 48, 49, 50, 51, 52, 53, 54, 55, 56, 57, 58, 59, 60, 61, 62, 63, 64, 65, 66, 67, 68, 69, 70, 71, 72, 73, 74, 75, 76, 77, 78, 79, 80, 81, 82, 83, 84] 0 (c_X11_fails E h g g_q22) (cut_wX_wX_c ..) rfl rfl (ws' := (wX E h g q22.1)) (cut_wX_wX_w ..) (wX_0 ..) rfl k_351 k_353 k_0 k_68 k_354 (⟨rfl, rfl⟩) hdV_X11_fails ⟨Nat.le_of_ble_eq_true rfl, Nat.le_of_ble_eq_true rfl⟩ rfl (Nat.le_of_ble_eq_true rfl) rfl dX11_put_23 ?_
      obtain rfl := Option.some.inj hf
      exact j_iret X hr hlk rfl dX11_put_26 hQ
  · replace hf := (if_pos c_4).symm.trans hf
    refine j_aload_n X dX11_put_7 rfl rfl ?_
    refine j_iconst (v := (1 : Int32)) X dX11_put_8 (by decide) ?_
    obtain ⟨q23, g_q23, hf⟩ := ob_t hf
    refine j_callV X [0, 1, 2, 3, 4, 5, 6, 7, 8, 9, 10, 11, 12, 13, 14, 15, 16, 17, 18, 19, 20, 21, 22, 23, 24, 25, 26, 27, 28, 29, 30, 31, 32, 33, 34, 35, 36, 37, 38, 39, 40, 41, 42, 43, 44, 45, 46, 47, 48, 49, 50, 51, 52, 53, 54, 55, 56, 57, 58, 59, 60, 61, 62, 63, 64, 65, 66, 67, 68, 69, 70, 71, 72, 73, 74, 75, 76, 77, 78, 79, 80, 81, 82, 83, 84] 0 (c_X11_fails E h g g_q23) (cut_wX_wX_c ..) rfl rfl (ws' := (wX E h g q23.1)) (cut_wX_wX_w ..) (wX_0 ..) rfl k_351 k_353 k_0 k_68 k_354 (⟨rfl, rfl⟩) hdV_X11_fails ⟨Nat.le_of_ble_eq_true rfl, Nat.le_of_ble_eq_true rfl⟩ rfl (Nat.le_of_ble_eq_true rfl) rfl dX11_put_9 ?_
    obtain rfl := Option.some.inj hf
    exact j_iret X hr hlk rfl dX11_put_12 hQ
