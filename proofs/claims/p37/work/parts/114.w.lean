def f_X7_parts_k0 (μ : Mem) (x2 : Int32) : Option (Mem × Int32) := (f_X6_begins μ (13 : Int32)).bind fun q1 => (bd ((q1 0 1) - (q1 0 0)) fun y2 => ((if y2 = 0 then bd (upA q1 0 (upd (q1 0) 2 (1 : Int32))) fun μ4 => (some (μ4, (0 : Int32))) else (if ¬ y2 = 0 then some (q1, (x2 / y2)) else none))))
set_option maxHeartbeats 4000000 in
set_option maxRecDepth 20000 in
theorem c_X7_parts_k0 (E : Ev) (h : Nat → Nat) (g : Nat → Option Nat) {μ : Mem} {x2 : Int32} {r : (Mem × Int32)} (hf : f_X7_parts_k0 μ x2 = some r) : Ct E yX7_parts cX7_parts 4 (some .int) (rmOf 1 21) (wV E h g μ) (wV E h g r.1) [.ref (h 3), .ref (h 0), .int x2] (some (.int r.2)) := by
  refine ct_start RX7 1 (by decide) rfl (Nat.le_of_ble_eq_true rfl) ?_
  intro p l e s m args below meth c A Q X hr hlk hQ
  rw [f_X7_parts_k0] at hf
  refine j_aload_n X dX7_parts_0 rfl rfl ?_
  refine j_bipush (v := (13 : Int32)) X dX7_parts_1 (by decide) ?_
  obtain ⟨q1, g_q1, hf⟩ := ob_t hf
  refine j_callV X [0, 1, 2, 3, 4, 5, 6, 7, 8, 9] 0 (c_X6_begins E h g g_q1) (cut_wV_wV_c ..) rfl rfl (ws' := (wV E h g q1)) (cut_wV_wV_w ..) (wV_0 ..) rfl k_762 k_745 k_746 k_79 k_747 (⟨rfl, rfl⟩) hdV_X6_begins ⟨Nat.le_of_ble_eq_true rfl, Nat.le_of_ble_eq_true rfl⟩ rfl (Nat.le_of_ble_eq_true rfl) rfl dX7_parts_3 ?_
  refine j_aload_n X dX7_parts_6 rfl rfl ?_
  refine j_get (C := RX6) (T := TX6) (N := 7) X iX6 0 (wV_0 ..) rfl 1 (by decide) k_282 rfl rfl dX7_parts_7 ?_
  refine j_aload_n X dX7_parts_10 rfl rfl ?_
  refine j_get (C := RX6) (T := TX6) (N := 7) X iX6 0 (wV_0 ..) rfl 0 (by decide) k_278 rfl rfl dX7_parts_11 ?_
  refine j_isub X dX7_parts_14 ?_
  obtain ⟨y2, e_y2, hf⟩ := bd_e hf
  refine j_top e_y2 ?_
  refine j_istore_n3 X dX7_parts_15 rfl (by decide) rfl ?_
  refine j_iload_n X dX7_parts_16 rfl rfl ?_
  refine j_if_ne (tgt := 27) X dX7_parts_17 (by decide) (fun c_17 => ?_) (fun c_17 => ?_)
  · replace hf := (if_neg c_17).symm.trans hf
    refine j_iload_n X dX7_parts_27 rfl rfl ?_
    refine j_iload_n X dX7_parts_28 rfl rfl ?_
    obtain ⟨c3, hf⟩ := oi_t hf
    refine j_idiv X dX7_parts_29 c3 ?_
    obtain rfl := Option.some.inj hf
    exact j_iret X hr hlk rfl dX7_parts_30 hQ
  · replace hf := (if_pos c_17).symm.trans hf
    refine j_aload_n X dX7_parts_20 rfl rfl ?_
    refine j_iconst (v := (1 : Int32)) X dX7_parts_21 (by decide) ?_
    obtain ⟨μ4, e_μ4, hf⟩ := bd_e hf
    refine j_put (C := RX6) (T := TX6) (N := 7) X iX6 0 (wV_0 ..) rfl 2 (by decide) k_285 rfl tyX6 tyX6_ok nmX6 rfl (ty := .boolean) (by decide +kernel) rfl rfl (Nat.le_of_ble_eq_true rfl) dX7_parts_22 (ws' := (wV E h g μ4)) (by rw [e_μ4]; exact wV_f0_2 ..) ?_
    refine j_iconst (v := (0 : Int32)) X dX7_parts_25 (by decide) ?_
    obtain rfl := Option.some.inj hf
    exact j_iret X hr hlk rfl dX7_parts_26 hQ
def f_X7_holds_k1 (μ : Mem) (x2 : Int32) : Option (Mem × Int32) := (f_X6_begins μ (10 : Int32)).bind fun q1 => (some (q1, (x2 + (q1 0 0))))
set_option maxHeartbeats 4000000 in
set_option maxRecDepth 20000 in
theorem c_X7_holds_k1 (E : Ev) (h : Nat → Nat) (g : Nat → Option Nat) {μ : Mem} {x2 : Int32} {r : (Mem × Int32)} (hf : f_X7_holds_k1 μ x2 = some r) : Ct E yX7_holds cX7_holds 3 (some .int) (rmOf 1 21) (wV E h g μ) (wV E h g r.1) [.ref (h 4), .ref (h 0), .int x2] (some (.int r.2)) := by
  refine ct_start RX7 0 (by decide) rfl (Nat.le_of_ble_eq_true rfl) ?_
  intro p l e s m args below meth c A Q X hr hlk hQ
  rw [f_X7_holds_k1] at hf
  refine j_aload_n X dX7_holds_0 rfl rfl ?_
  refine j_bipush (v := (10 : Int32)) X dX7_holds_1 (by decide) ?_
  obtain ⟨q1, g_q1, hf⟩ := ob_t hf
  refine j_callV X [0, 1, 2, 3, 4, 5, 6, 7, 8, 9] 0 (c_X6_begins E h g g_q1) (cut_wV_wV_c ..) rfl rfl (ws' := (wV E h g q1)) (cut_wV_wV_w ..) (wV_0 ..) rfl k_762 k_745 k_746 k_79 k_747 (⟨rfl, rfl⟩) hdV_X6_begins ⟨Nat.le_of_ble_eq_true rfl, Nat.le_of_ble_eq_true rfl⟩ rfl (Nat.le_of_ble_eq_true rfl) rfl dX7_holds_3 ?_
  refine j_iload_n X dX7_holds_6 rfl rfl ?_
  refine j_aload_n X dX7_holds_7 rfl rfl ?_
  refine j_get (C := RX6) (T := TX6) (N := 7) X iX6 0 (wV_0 ..) rfl 0 (by decide) k_278 rfl rfl dX7_holds_8 ?_
  refine j_iadd X dX7_holds_11 ?_
  obtain rfl := Option.some.inj hf
  exact j_iret X hr hlk rfl dX7_holds_12 hQ
def f_X0_holds_k1 (μ : Mem) (x2 : Int32) : Option (Mem × Int32) := (f_X6_begins μ (20 : Int32)).bind fun q1 => ((f_X7_holds_k1 q1 x2).bind fun q2 => (some (q2.1, (q2.2 - (4 : Int32)))))
set_option maxHeartbeats 4000000 in
set_option maxRecDepth 20000 in
theorem c_X0_holds_k1 (E : Ev) (h : Nat → Nat) (g : Nat → Option Nat) {μ : Mem} {x2 : Int32} {r : (Mem × Int32)} (hf : f_X0_holds_k1 μ x2 = some r) : Ct E yX0_holds cX0_holds 3 (some .int) (rmOf 2 43) (wV E h g μ) (wV E h g r.1) [.ref (h 4), .ref (h 0), .int x2] (some (.int r.2)) := by
  refine ct_start RX0 0 (by decide) rfl (Nat.le_of_ble_eq_true rfl) ?_
  intro p l e s m args below meth c A Q X hr hlk hQ
  rw [f_X0_holds_k1] at hf
  refine j_aload_n X dX0_holds_0 rfl rfl ?_
  refine j_bipush (v := (20 : Int32)) X dX0_holds_1 (by decide) ?_
  obtain ⟨q1, g_q1, hf⟩ := ob_t hf
  refine j_callV X [0, 1, 2, 3, 4, 5, 6, 7, 8, 9] 0 (c_X6_begins E h g g_q1) (cut_wV_wV_c ..) rfl rfl (ws' := (wV E h g q1)) (cut_wV_wV_w ..) (wV_0 ..) rfl k_744 k_745 k_746 k_79 k_747 (⟨rfl, rfl⟩) hdV_X6_begins ⟨Nat.le_of_ble_eq_true rfl, Nat.le_of_ble_eq_true rfl⟩ rfl (Nat.le_of_ble_eq_true rfl) rfl dX0_holds_3 ?_
  refine j_aload_n X dX0_holds_6 rfl rfl ?_
  refine j_aload_n X dX0_holds_7 rfl rfl ?_
  refine j_iload_n X dX0_holds_8 rfl rfl ?_
  obtain ⟨q2, g_q2, hf⟩ := ob_t hf
  refine j_callSU X [0, 1, 2, 3, 4, 5, 6, 7, 8, 9] 4 (c_X7_holds_k1 E h g g_q2) (cut_wV_wV_c ..) rfl rfl (ws' := (wV E h g q2.1)) (cut_wV_wV_w ..) (wV_4 ..) rfl k_748 k_740 k_106 k_738 k_69 k_761 (⟨rfl, rfl⟩) hdSU_X7_holds ⟨Nat.le_of_ble_eq_true rfl, Nat.le_of_ble_eq_true rfl⟩ rfl (Nat.le_of_ble_eq_true rfl) rfl dX0_holds_9 ?_
  refine j_iconst (v := (4 : Int32)) X dX0_holds_12 (by decide) ?_
  refine j_isub X dX0_holds_13 ?_
  obtain rfl := Option.some.inj hf
  exact j_iret X hr hlk rfl dX0_holds_14 hQ
def f_X7_leans_k1 (μ : Mem) (x2 : Int32) : Option (Mem × Int32) := (f_X6_begins μ (11 : Int32)).bind fun q1 => ((f_X0_holds_k1 q1 x2).bind fun q2 => (some (q2.1, (q2.2 * (2 : Int32)))))
set_option maxHeartbeats 4000000 in
set_option maxRecDepth 20000 in
theorem c_X7_leans_k1 (E : Ev) (h : Nat → Nat) (g : Nat → Option Nat) {μ : Mem} {x2 : Int32} {r : (Mem × Int32)} (hf : f_X7_leans_k1 μ x2 = some r) : Ct E yX7_leans cX7_leans 3 (some .int) (rmOf 3 65) (wV E h g μ) (wV E h g r.1) [.ref (h 4), .ref (h 0), .int x2] (some (.int r.2)) := by
  refine ct_start RX7 0 (by decide) rfl (Nat.le_of_ble_eq_true rfl) ?_
  intro p l e s m args below meth c A Q X hr hlk hQ
  rw [f_X7_leans_k1] at hf
  refine j_aload_n X dX7_leans_0 rfl rfl ?_
  refine j_bipush (v := (11 : Int32)) X dX7_leans_1 (by decide) ?_
  obtain ⟨q1, g_q1, hf⟩ := ob_t hf
  refine j_callV X [0, 1, 2, 3, 4, 5, 6, 7, 8, 9] 0 (c_X6_begins E h g g_q1) (cut_wV_wV_c ..) rfl rfl (ws' := (wV E h g q1)) (cut_wV_wV_w ..) (wV_0 ..) rfl k_762 k_745 k_746 k_79 k_747 (⟨rfl, rfl⟩) hdV_X6_begins ⟨Nat.le_of_ble_eq_true rfl, Nat.le_of_ble_eq_true rfl⟩ rfl (Nat.le_of_ble_eq_true rfl) rfl dX7_leans_3 ?_
  refine j_aload_n X dX7_leans_6 rfl rfl ?_
  refine j_aload_n X dX7_leans_7 rfl rfl ?_
  refine j_iload_n X dX7_leans_8 rfl rfl ?_
  obtain ⟨q2, g_q2, hf⟩ := ob_t hf
  refine j_callO (n := 2) (x := ⟨RX7, "holds", "(LStandStill$Speaker;I)I"⟩) (owner := RX7) X [0, 1, 2, 3, 4, 5, 6, 7, 8, 9] 4 (c_X0_holds_k1 E h g g_q2) (cut_wV_wV_c ..) rfl rfl (ws' := (wV E h g q2.1)) (cut_wV_wV_w ..) (wV_4 ..) rfl k_785 k_740 k_738 k_741 k_742 k_70 k_743 (⟨rfl, rfl⟩) k_761 (by decide +kernel) ⟨Nat.le_of_ble_eq_true rfl, Nat.le_of_ble_eq_true rfl⟩ rfl (Nat.le_of_ble_eq_true rfl) rfl dX7_leans_9 ?_
  refine j_iconst (v := (2 : Int32)) X dX7_leans_12 (by decide) ?_
  refine j_imul X dX7_leans_13 ?_
  obtain rfl := Option.some.inj hf
  exact j_iret X hr hlk rfl dX7_leans_14 hQ
def f_X7_sways_k1 (μ : Mem) (x2 : Int32) : Option (Mem × Int32) := (f_X6_begins μ (12 : Int32)).bind fun q1 => ((f_X7_leans_k1 q1 x2).bind fun q2 => (some (q2.1, (q2.2 - (q2.1 0 1)))))
set_option maxHeartbeats 4000000 in
set_option maxRecDepth 20000 in
theorem c_X7_sways_k1 (E : Ev) (h : Nat → Nat) (g : Nat → Option Nat) {μ : Mem} {x2 : Int32} {r : (Mem × Int32)} (hf : f_X7_sways_k1 μ x2 = some r) : Ct E yX7_sways cX7_sways 3 (some .int) (rmOf 4 87) (wV E h g μ) (wV E h g r.1) [.ref (h 4), .ref (h 0), .int x2] (some (.int r.2)) := by
  refine ct_start RX7 0 (by decide) rfl (Nat.le_of_ble_eq_true rfl) ?_
  intro p l e s m args below meth c A Q X hr hlk hQ
  rw [f_X7_sways_k1] at hf
  refine j_aload_n X dX7_sways_0 rfl rfl ?_
  refine j_bipush (v := (12 : Int32)) X dX7_sways_1 (by decide) ?_
  obtain ⟨q1, g_q1, hf⟩ := ob_t hf
  refine j_callV X [0, 1, 2, 3, 4, 5, 6, 7, 8, 9] 0 (c_X6_begins E h g g_q1) (cut_wV_wV_c ..) rfl rfl (ws' := (wV E h g q1)) (cut_wV_wV_w ..) (wV_0 ..) rfl k_762 k_745 k_746 k_79 k_747 (⟨rfl, rfl⟩) hdV_X6_begins ⟨Nat.le_of_ble_eq_true rfl, Nat.le_of_ble_eq_true rfl⟩ rfl (Nat.le_of_ble_eq_true rfl) rfl dX7_sways_3 ?_
  refine j_aload_n X dX7_sways_6 rfl rfl ?_
  refine j_aload_n X dX7_sways_7 rfl rfl ?_
  refine j_iload_n X dX7_sways_8 rfl rfl ?_
  obtain ⟨q2, g_q2, hf⟩ := ob_t hf
  refine j_callU (n := 2) (x := ⟨RX7, "leans", "(LStandStill$Speaker;I)I"⟩) (owner := RX7) X [0, 1, 2, 3, 4, 5, 6, 7, 8, 9] 4 (c_X7_leans_k1 E h g g_q2) (cut_wV_wV_c ..) rfl rfl (ws' := (wV E h g q2.1)) (cut_wV_wV_w ..) (wV_4 ..) rfl k_806 k_766 k_767 k_764 k_69 k_784 (⟨rfl, rfl⟩) rfl (by decide +kernel) ⟨Nat.le_of_ble_eq_true rfl, Nat.le_of_ble_eq_true rfl⟩ rfl (Nat.le_of_ble_eq_true rfl) rfl dX7_sways_9 ?_
  refine j_aload_n X dX7_sways_12 rfl rfl ?_
  refine j_get (C := RX6) (T := TX6) (N := 7) X iX6 0 (wV_0 ..) rfl 1 (by decide) k_282 rfl rfl dX7_sways_13 ?_
  refine j_isub X dX7_sways_16 ?_
  obtain rfl := Option.some.inj hf
  exact j_iret X hr hlk rfl dX7_sways_17 hQ
def f_X7_parts_k1 (μ : Mem) (x2 : Int32) : Option (Mem × Int32) := (f_X6_begins μ (13 : Int32)).bind fun q1 => (bd ((q1 0 1) - (q1 0 0)) fun y2 => ((if y2 = 0 then bd (upA q1 0 (upd (q1 0) 2 (1 : Int32))) fun μ4 => (some (μ4, (0 : Int32))) else (if ¬ y2 = 0 then some (q1, (x2 / y2)) else none))))
set_option maxHeartbeats 4000000 in
set_option maxRecDepth 20000 in
theorem c_X7_parts_k1 (E : Ev) (h : Nat → Nat) (g : Nat → Option Nat) {μ : Mem} {x2 : Int32} {r : (Mem × Int32)} (hf : f_X7_parts_k1 μ x2 = some r) : Ct E yX7_parts cX7_parts 4 (some .int) (rmOf 1 21) (wV E h g μ) (wV E h g r.1) [.ref (h 4), .ref (h 0), .int x2] (some (.int r.2)) := by
  refine ct_start RX7 1 (by decide) rfl (Nat.le_of_ble_eq_true rfl) ?_
  intro p l e s m args below meth c A Q X hr hlk hQ
  rw [f_X7_parts_k1] at hf
  refine j_aload_n X dX7_parts_0 rfl rfl ?_
  refine j_bipush (v := (13 : Int32)) X dX7_parts_1 (by decide) ?_
  obtain ⟨q1, g_q1, hf⟩ := ob_t hf
  refine j_callV X [0, 1, 2, 3, 4, 5, 6, 7, 8, 9] 0 (c_X6_begins E h g g_q1) (cut_wV_wV_c ..) rfl rfl (ws' := (wV E h g q1)) (cut_wV_wV_w ..) (wV_0 ..) rfl k_762 k_745 k_746 k_79 k_747 (⟨rfl, rfl⟩) hdV_X6_begins ⟨Nat.le_of_ble_eq_true rfl, Nat.le_of_ble_eq_true rfl⟩ rfl (Nat.le_of_ble_eq_true rfl) rfl dX7_parts_3 ?_
  refine j_aload_n X dX7_parts_6 rfl rfl ?_
  refine j_get (C := RX6) (T := TX6) (N := 7) X iX6 0 (wV_0 ..) rfl 1 (by decide) k_282 rfl rfl dX7_parts_7 ?_
  refine j_aload_n X dX7_parts_10 rfl rfl ?_
  refine j_get (C := RX6) (T := TX6) (N := 7) X iX6 0 (wV_0 ..) rfl 0 (by decide) k_278 rfl rfl dX7_parts_11 ?_
  refine j_isub X dX7_parts_14 ?_
  obtain ⟨y2, e_y2, hf⟩ := bd_e hf
  refine j_top e_y2 ?_
  refine j_istore_n3 X dX7_parts_15 rfl (by decide) rfl ?_
  refine j_iload_n X dX7_parts_16 rfl rfl ?_
  refine j_if_ne (tgt := 27) X dX7_parts_17 (by decide) (fun c_17 => ?_) (fun c_17 => ?_)
  · replace hf := (if_neg c_17).symm.trans hf
    refine j_iload_n X dX7_parts_27 rfl rfl ?_
    refine j_iload_n X dX7_parts_28 rfl rfl ?_
    obtain ⟨c3, hf⟩ := oi_t hf
    refine j_idiv X dX7_parts_29 c3 ?_
    obtain rfl := Option.some.inj hf
    exact j_iret X hr hlk rfl dX7_parts_30 hQ
  · replace hf := (if_pos c_17).symm.trans hf
    refine j_aload_n X dX7_parts_20 rfl rfl ?_
    refine j_iconst (v := (1 : Int32)) X dX7_parts_21 (by decide) ?_
    obtain ⟨μ4, e_μ4, hf⟩ := bd_e hf
    refine j_put (C := RX6) (T := TX6) (N := 7) X iX6 0 (wV_0 ..) rfl 2 (by decide) k_285 rfl tyX6 tyX6_ok nmX6 rfl (ty := .boolean) (by decide +kernel) rfl rfl (Nat.le_of_ble_eq_true rfl) dX7_parts_22 (ws' := (wV E h g μ4)) (by rw [e_μ4]; exact wV_f0_2 ..) ?_
    refine j_iconst (v := (0 : Int32)) X dX7_parts_25 (by decide) ?_
    obtain rfl := Option.some.inj hf
    exact j_iret X hr hlk rfl dX7_parts_26 hQ
def f_X0_parts_k1 (μ : Mem) (x2 : Int32) : Option (Mem × Int32) := (f_X6_begins μ (21 : Int32)).bind fun q1 => ((f_X7_parts_k1 q1 x2).bind fun q2 => ((if (q2.1 0 2) = 0 then (f_X7_leans_k1 q2.1 (1 : Int32)).bind fun q3 => (some (q3.1, (q2.2 + q3.2))) else some (q2.1, (0 : Int32)))))
set_option maxHeartbeats 4000000 in
set_option maxRecDepth 20000 in
theorem c_X0_parts_k1 (E : Ev) (h : Nat → Nat) (g : Nat → Option Nat) {μ : Mem} {x2 : Int32} {r : (Mem × Int32)} (hf : f_X0_parts_k1 μ x2 = some r) : Ct E yX0_parts cX0_parts 4 (some .int) (rmOf 4 87) (wV E h g μ) (wV E h g r.1) [.ref (h 4), .ref (h 0), .int x2] (some (.int r.2)) := by
  refine ct_start RX0 1 (by decide) rfl (Nat.le_of_ble_eq_true rfl) ?_
  intro p l e s m args below meth c A Q X hr hlk hQ
  rw [f_X0_parts_k1] at hf
  refine j_aload_n X dX0_parts_0 rfl rfl ?_
  refine j_bipush (v := (21 : Int32)) X dX0_parts_1 (by decide) ?_
  obtain ⟨q1, g_q1, hf⟩ := ob_t hf
  refine j_callV X [0, 1, 2, 3, 4, 5, 6, 7, 8, 9] 0 (c_X6_begins E h g g_q1) (cut_wV_wV_c ..) rfl rfl (ws' := (wV E h g q1)) (cut_wV_wV_w ..) (wV_0 ..) rfl k_744 k_745 k_746 k_79 k_747 (⟨rfl, rfl⟩) hdV_X6_begins ⟨Nat.le_of_ble_eq_true rfl, Nat.le_of_ble_eq_true rfl⟩ rfl (Nat.le_of_ble_eq_true rfl) rfl dX0_parts_3 ?_
  refine j_aload_n X dX0_parts_6 rfl rfl ?_
  refine j_aload_n X dX0_parts_7 rfl rfl ?_
  refine j_iload_n X dX0_parts_8 rfl rfl ?_
  obtain ⟨q2, g_q2, hf⟩ := ob_t hf
  refine j_callSU X [0, 1, 2, 3, 4, 5, 6, 7, 8, 9] 4 (c_X7_parts_k1 E h g g_q2) (cut_wV_wV_c ..) rfl rfl (ws' := (wV E h g q2.1)) (cut_wV_wV_w ..) (wV_4 ..) rfl k_814 k_810 k_106 k_808 k_69 k_825 (⟨rfl, rfl⟩) hdSU_X7_parts ⟨Nat.le_of_ble_eq_true rfl, Nat.le_of_ble_eq_true rfl⟩ rfl (Nat.le_of_ble_eq_true rfl) rfl dX0_parts_9 ?_
  refine j_istore_n3 X dX0_parts_12 rfl (by decide) rfl ?_
  refine j_aload_n X dX0_parts_13 rfl rfl ?_
  refine j_get (C := RX6) (T := TX6) (N := 7) X iX6 0 (wV_0 ..) rfl 2 (by decide) k_284 rfl rfl dX0_parts_14 ?_
  refine j_if_eq (tgt := 24) X dX0_parts_17 (by decide) (fun c_17 => ?_) (fun c_17 => ?_)
  · replace hf := (if_pos c_17).symm.trans hf
    refine j_iload_n X dX0_parts_24 rfl rfl ?_
    refine j_aload_n X dX0_parts_25 rfl rfl ?_
    refine j_aload_n X dX0_parts_26 rfl rfl ?_
    refine j_iconst (v := (1 : Int32)) X dX0_parts_27 (by decide) ?_
    obtain ⟨q3, g_q3, hf⟩ := ob_t hf
    refine j_callU (n := 2) (x := ⟨RX0, "leans", "(LStandStill$Speaker;I)I"⟩) (owner := RX7) X [0, 1, 2, 3, 4, 5, 6, 7, 8, 9] 4 (c_X7_leans_k1 E h g g_q3) (cut_wV_wV_c ..) rfl rfl (ws' := (wV E h g q3.1)) (cut_wV_wV_w ..) (wV_4 ..) rfl k_815 k_816 k_818 k_764 k_69 k_784 (⟨rfl, rfl⟩) rfl (by decide +kernel) ⟨Nat.le_of_ble_eq_true rfl, Nat.le_of_ble_eq_true rfl⟩ rfl (Nat.le_of_ble_eq_true rfl) rfl dX0_parts_28 ?_
    refine j_iadd X dX0_parts_31 ?_
    obtain rfl := Option.some.inj hf
    exact j_iret X hr hlk rfl dX0_parts_32 hQ
  · replace hf := (if_neg c_17).symm.trans hf
    refine j_iconst (v := (0 : Int32)) X dX0_parts_20 (by decide) ?_
    refine j_goto (tgt := 32) X dX0_parts_21 (by decide) ?_
    obtain rfl := Option.some.inj hf
    exact j_iret X hr hlk rfl dX0_parts_32 hQ
def f_X7_holds_k2 (μ : Mem) (x2 : Int32) : Option (Mem × Int32) := (f_X6_begins μ (10 : Int32)).bind fun q1 => (some (q1, (x2 + (q1 0 0))))
set_option maxHeartbeats 4000000 in
set_option maxRecDepth 20000 in
theorem c_X7_holds_k2 (E : Ev) (h : Nat → Nat) (g : Nat → Option Nat) {μ : Mem} {x2 : Int32} {r : (Mem × Int32)} (hf : f_X7_holds_k2 μ x2 = some r) : Ct E yX7_holds cX7_holds 3 (some .int) (rmOf 1 21) (wV E h g μ) (wV E h g r.1) [.ref (h 5), .ref (h 0), .int x2] (some (.int r.2)) := by
  refine ct_start RX7 0 (by decide) rfl (Nat.le_of_ble_eq_true rfl) ?_
  intro p l e s m args below meth c A Q X hr hlk hQ
  rw [f_X7_holds_k2] at hf
  refine j_aload_n X dX7_holds_0 rfl rfl ?_
  refine j_bipush (v := (10 : Int32)) X dX7_holds_1 (by decide) ?_
  obtain ⟨q1, g_q1, hf⟩ := ob_t hf
  refine j_callV X [0, 1, 2, 3, 4, 5, 6, 7, 8, 9] 0 (c_X6_begins E h g g_q1) (cut_wV_wV_c ..) rfl rfl (ws' := (wV E h g q1)) (cut_wV_wV_w ..) (wV_0 ..) rfl k_762 k_745 k_746 k_79 k_747 (⟨rfl, rfl⟩) hdV_X6_begins ⟨Nat.le_of_ble_eq_true rfl, Nat.le_of_ble_eq_true rfl⟩ rfl (Nat.le_of_ble_eq_true rfl) rfl dX7_holds_3 ?_
  refine j_iload_n X dX7_holds_6 rfl rfl ?_
  refine j_aload_n X dX7_holds_7 rfl rfl ?_
  refine j_get (C := RX6) (T := TX6) (N := 7) X iX6 0 (wV_0 ..) rfl 0 (by decide) k_278 rfl rfl dX7_holds_8 ?_
  refine j_iadd X dX7_holds_11 ?_
  obtain rfl := Option.some.inj hf
  exact j_iret X hr hlk rfl dX7_holds_12 hQ
def f_X7_leans_k2 (μ : Mem) (x2 : Int32) : Option (Mem × Int32) := (f_X6_begins μ (11 : Int32)).bind fun q1 => ((f_X7_holds_k2 q1 x2).bind fun q2 => (some (q2.1, (q2.2 * (2 : Int32)))))
set_option maxHeartbeats 4000000 in
set_option maxRecDepth 20000 in
theorem c_X7_leans_k2 (E : Ev) (h : Nat → Nat) (g : Nat → Option Nat) {μ : Mem} {x2 : Int32} {r : (Mem × Int32)} (hf : f_X7_leans_k2 μ x2 = some r) : Ct E yX7_leans cX7_leans 3 (some .int) (rmOf 2 43) (wV E h g μ) (wV E h g r.1) [.ref (h 5), .ref (h 0), .int x2] (some (.int r.2)) := by
  refine ct_start RX7 0 (by decide) rfl (Nat.le_of_ble_eq_true rfl) ?_
  intro p l e s m args below meth c A Q X hr hlk hQ
  rw [f_X7_leans_k2] at hf
  refine j_aload_n X dX7_leans_0 rfl rfl ?_
  refine j_bipush (v := (11 : Int32)) X dX7_leans_1 (by decide) ?_
  obtain ⟨q1, g_q1, hf⟩ := ob_t hf
  refine j_callV X [0, 1, 2, 3, 4, 5, 6, 7, 8, 9] 0 (c_X6_begins E h g g_q1) (cut_wV_wV_c ..) rfl rfl (ws' := (wV E h g q1)) (cut_wV_wV_w ..) (wV_0 ..) rfl k_762 k_745 k_746 k_79 k_747 (⟨rfl, rfl⟩) hdV_X6_begins ⟨Nat.le_of_ble_eq_true rfl, Nat.le_of_ble_eq_true rfl⟩ rfl (Nat.le_of_ble_eq_true rfl) rfl dX7_leans_3 ?_
  refine j_aload_n X dX7_leans_6 rfl rfl ?_
  refine j_aload_n X dX7_leans_7 rfl rfl ?_
  refine j_iload_n X dX7_leans_8 rfl rfl ?_
  obtain ⟨q2, g_q2, hf⟩ := ob_t hf
  refine j_callU (n := 2) (x := ⟨RX7, "holds", "(LStandStill$Speaker;I)I"⟩) (owner := RX7) X [0, 1, 2, 3, 4, 5, 6, 7, 8, 9] 5 (c_X7_holds_k2 E h g g_q2) (cut_wV_wV_c ..) rfl rfl (ws' := (wV E h g q2.1)) (cut_wV_wV_w ..) (wV_5 ..) rfl k_785 k_740 k_749 k_738 k_69 k_761 (⟨rfl, rfl⟩) rfl (by decide +kernel) ⟨Nat.le_of_ble_eq_true rfl, Nat.le_of_ble_eq_true rfl⟩ rfl (Nat.le_of_ble_eq_true rfl) rfl dX7_leans_9 ?_
  refine j_iconst (v := (2 : Int32)) X dX7_leans_12 (by decide) ?_
  refine j_imul X dX7_leans_13 ?_
  obtain rfl := Option.some.inj hf
  exact j_iret X hr hlk rfl dX7_leans_14 hQ
def f_X2_leans_k2 (μ : Mem) (x2 : Int32) : Option (Mem × Int32) := (f_X6_begins μ (30 : Int32)).bind fun q1 => ((f_X7_leans_k2 q1 x2).bind fun q2 => (some (q2.1, ((0 : Int32) - q2.2))))
set_option maxHeartbeats 4000000 in
set_option maxRecDepth 20000 in
theorem c_X2_leans_k2 (E : Ev) (h : Nat → Nat) (g : Nat → Option Nat) {μ : Mem} {x2 : Int32} {r : (Mem × Int32)} (hf : f_X2_leans_k2 μ x2 = some r) : Ct E yX2_leans cX2_leans 3 (some .int) (rmOf 3 65) (wV E h g μ) (wV E h g r.1) [.ref (h 5), .ref (h 0), .int x2] (some (.int r.2)) := by
  refine ct_start RX2 0 (by decide) rfl (Nat.le_of_ble_eq_true rfl) ?_
  intro p l e s m args below meth c A Q X hr hlk hQ
  rw [f_X2_leans_k2] at hf
  refine j_aload_n X dX2_leans_0 rfl rfl ?_
  refine j_bipush (v := (30 : Int32)) X dX2_leans_1 (by decide) ?_
  obtain ⟨q1, g_q1, hf⟩ := ob_t hf
  refine j_callV X [0, 1, 2, 3, 4, 5, 6, 7, 8, 9] 0 (c_X6_begins E h g g_q1) (cut_wV_wV_c ..) rfl rfl (ws' := (wV E h g q1)) (cut_wV_wV_w ..) (wV_0 ..) rfl k_771 k_745 k_746 k_79 k_747 (⟨rfl, rfl⟩) hdV_X6_begins ⟨Nat.le_of_ble_eq_true rfl, Nat.le_of_ble_eq_true rfl⟩ rfl (Nat.le_of_ble_eq_true rfl) rfl dX2_leans_3 ?_
  refine j_iconst (v := (0 : Int32)) X dX2_leans_6 (by decide) ?_
  refine j_aload_n X dX2_leans_7 rfl rfl ?_
  refine j_aload_n X dX2_leans_8 rfl rfl ?_
  refine j_iload_n X dX2_leans_9 rfl rfl ?_
  obtain ⟨q2, g_q2, hf⟩ := ob_t hf
  refine j_callSU X [0, 1, 2, 3, 4, 5, 6, 7, 8, 9] 5 (c_X7_leans_k2 E h g g_q2) (cut_wV_wV_c ..) rfl rfl (ws' := (wV E h g q2.1)) (cut_wV_wV_w ..) (wV_5 ..) rfl k_772 k_766 k_113 k_764 k_69 k_784 (⟨rfl, rfl⟩) hdSU_X7_leans ⟨Nat.le_of_ble_eq_true rfl, Nat.le_of_ble_eq_true rfl⟩ rfl (Nat.le_of_ble_eq_true rfl) rfl dX2_leans_10 ?_
  refine j_isub X dX2_leans_13 ?_
  obtain rfl := Option.some.inj hf
  exact j_iret X hr hlk rfl dX2_leans_14 hQ
def f_X7_sways_k2 (μ : Mem) (x2 : Int32) : Option (Mem × Int32) := (f_X6_begins μ (12 : Int32)).bind fun q1 => ((f_X2_leans_k2 q1 x2).bind fun q2 => (some (q2.1, (q2.2 - (q2.1 0 1)))))
set_option maxHeartbeats 4000000 in
set_option maxRecDepth 20000 in
theorem c_X7_sways_k2 (E : Ev) (h : Nat → Nat) (g : Nat → Option Nat) {μ : Mem} {x2 : Int32} {r : (Mem × Int32)} (hf : f_X7_sways_k2 μ x2 = some r) : Ct E yX7_sways cX7_sways 3 (some .int) (rmOf 4 87) (wV E h g μ) (wV E h g r.1) [.ref (h 5), .ref (h 0), .int x2] (some (.int r.2)) := by
  refine ct_start RX7 0 (by decide) rfl (Nat.le_of_ble_eq_true rfl) ?_
  intro p l e s m args below meth c A Q X hr hlk hQ
  rw [f_X7_sways_k2] at hf
  refine j_aload_n X dX7_sways_0 rfl rfl ?_
  refine j_bipush (v := (12 : Int32)) X dX7_sways_1 (by decide) ?_
  obtain ⟨q1, g_q1, hf⟩ := ob_t hf
  refine j_callV X [0, 1, 2, 3, 4, 5, 6, 7, 8, 9] 0 (c_X6_begins E h g g_q1) (cut_wV_wV_c ..) rfl rfl (ws' := (wV E h g q1)) (cut_wV_wV_w ..) (wV_0 ..) rfl k_762 k_745 k_746 k_79 k_747 (⟨rfl, rfl⟩) hdV_X6_begins ⟨Nat.le_of_ble_eq_true rfl, Nat.le_of_ble_eq_true rfl⟩ rfl (Nat.le_of_ble_eq_true rfl) rfl dX7_sways_3 ?_
  refine j_aload_n X dX7_sways_6 rfl rfl ?_
  refine j_aload_n X dX7_sways_7 rfl rfl ?_
  refine j_iload_n X dX7_sways_8 rfl rfl ?_
  obtain ⟨q2, g_q2, hf⟩ := ob_t hf
  refine j_callO (n := 2) (x := ⟨RX7, "leans", "(LStandStill$Speaker;I)I"⟩) (owner := RX7) X [0, 1, 2, 3, 4, 5, 6, 7, 8, 9] 5 (c_X2_leans_k2 E h g g_q2) (cut_wV_wV_c ..) rfl rfl (ws' := (wV E h g q2.1)) (cut_wV_wV_w ..) (wV_5 ..) rfl k_806 k_766 k_764 k_768 k_769 k_71 k_770 (⟨rfl, rfl⟩) k_784 (by decide +kernel) ⟨Nat.le_of_ble_eq_true rfl, Nat.le_of_ble_eq_true rfl⟩ rfl (Nat.le_of_ble_eq_true rfl) rfl dX7_sways_9 ?_
  refine j_aload_n X dX7_sways_12 rfl rfl ?_
  refine j_get (C := RX6) (T := TX6) (N := 7) X iX6 0 (wV_0 ..) rfl 1 (by decide) k_282 rfl rfl dX7_sways_13 ?_
  refine j_isub X dX7_sways_16 ?_
  obtain rfl := Option.some.inj hf
  exact j_iret X hr hlk rfl dX7_sways_17 hQ
def f_X7_parts_k2 (μ : Mem) (x2 : Int32) : Option (Mem × Int32) := (f_X6_begins μ (13 : Int32)).bind fun q1 => (bd ((q1 0 1) - (q1 0 0)) fun y2 => ((if y2 = 0 then bd (upA q1 0 (upd (q1 0) 2 (1 : Int32))) fun μ4 => (some (μ4, (0 : Int32))) else (if ¬ y2 = 0 then some (q1, (x2 / y2)) else none))))
set_option maxHeartbeats 4000000 in
set_option maxRecDepth 20000 in
theorem c_X7_parts_k2 (E : Ev) (h : Nat → Nat) (g : Nat → Option Nat) {μ : Mem} {x2 : Int32} {r : (Mem × Int32)} (hf : f_X7_parts_k2 μ x2 = some r) : Ct E yX7_parts cX7_parts 4 (some .int) (rmOf 1 21) (wV E h g μ) (wV E h g r.1) [.ref (h 5), .ref (h 0), .int x2] (some (.int r.2)) := by
  refine ct_start RX7 1 (by decide) rfl (Nat.le_of_ble_eq_true rfl) ?_
  intro p l e s m args below meth c A Q X hr hlk hQ
  rw [f_X7_parts_k2] at hf
  refine j_aload_n X dX7_parts_0 rfl rfl ?_
  refine j_bipush (v := (13 : Int32)) X dX7_parts_1 (by decide) ?_
  obtain ⟨q1, g_q1, hf⟩ := ob_t hf
  refine j_callV X [0, 1, 2, 3, 4, 5, 6, 7, 8, 9] 0 (c_X6_begins E h g g_q1) (cut_wV_wV_c ..) rfl rfl (ws' := (wV E h g q1)) (cut_wV_wV_w ..) (wV_0 ..) rfl k_762 k_745 k_746 k_79 k_747 (⟨rfl, rfl⟩) hdV_X6_begins ⟨Nat.le_of_ble_eq_true rfl, Nat.le_of_ble_eq_true rfl⟩ rfl (Nat.le_of_ble_eq_true rfl) rfl dX7_parts_3 ?_
  refine j_aload_n X dX7_parts_6 rfl rfl ?_
  refine j_get (C := RX6) (T := TX6) (N := 7) X iX6 0 (wV_0 ..) rfl 1 (by decide) k_282 rfl rfl dX7_parts_7 ?_
  refine j_aload_n X dX7_parts_10 rfl rfl ?_
  refine j_get (C := RX6) (T := TX6) (N := 7) X iX6 0 (wV_0 ..) rfl 0 (by decide) k_278 rfl rfl dX7_parts_11 ?_
  refine j_isub X dX7_parts_14 ?_
  obtain ⟨y2, e_y2, hf⟩ := bd_e hf
  refine j_top e_y2 ?_
  refine j_istore_n3 X dX7_parts_15 rfl (by decide) rfl ?_
  refine j_iload_n X dX7_parts_16 rfl rfl ?_
  refine j_if_ne (tgt := 27) X dX7_parts_17 (by decide) (fun c_17 => ?_) (fun c_17 => ?_)
  · replace hf := (if_neg c_17).symm.trans hf
    refine j_iload_n X dX7_parts_27 rfl rfl ?_
    refine j_iload_n X dX7_parts_28 rfl rfl ?_
    obtain ⟨c3, hf⟩ := oi_t hf
    refine j_idiv X dX7_parts_29 c3 ?_
    obtain rfl := Option.some.inj hf
    exact j_iret X hr hlk rfl dX7_parts_30 hQ
  · replace hf := (if_pos c_17).symm.trans hf
    refine j_aload_n X dX7_parts_20 rfl rfl ?_
    refine j_iconst (v := (1 : Int32)) X dX7_parts_21 (by decide) ?_
    obtain ⟨μ4, e_μ4, hf⟩ := bd_e hf
    refine j_put (C := RX6) (T := TX6) (N := 7) X iX6 0 (wV_0 ..) rfl 2 (by decide) k_285 rfl tyX6 tyX6_ok nmX6 rfl (ty := .boolean) (by decide +kernel) rfl rfl (Nat.le_of_ble_eq_true rfl) dX7_parts_22 (ws' := (wV E h g μ4)) (by rw [e_μ4]; exact wV_f0_2 ..) ?_
    refine j_iconst (v := (0 : Int32)) X dX7_parts_25 (by decide) ?_
    obtain rfl := Option.some.inj hf
    exact j_iret X hr hlk rfl dX7_parts_26 hQ
def f_X7_holds_k3 (μ : Mem) (x2 : Int32) : Option (Mem × Int32) := (f_X6_begins μ (10 : Int32)).bind fun q1 => (some (q1, (x2 + (q1 0 0))))
set_option maxHeartbeats 4000000 in
set_option maxRecDepth 20000 in
theorem c_X7_holds_k3 (E : Ev) (h : Nat → Nat) (g : Nat → Option Nat) {μ : Mem} {x2 : Int32} {r : (Mem × Int32)} (hf : f_X7_holds_k3 μ x2 = some r) : Ct E yX7_holds cX7_holds 3 (some .int) (rmOf 1 21) (wV E h g μ) (wV E h g r.1) [.ref (h 6), .ref (h 0), .int x2] (some (.int r.2)) := by
  refine ct_start RX7 0 (by decide) rfl (Nat.le_of_ble_eq_true rfl) ?_
  intro p l e s m args below meth c A Q X hr hlk hQ
  rw [f_X7_holds_k3] at hf
  refine j_aload_n X dX7_holds_0 rfl rfl ?_
  refine j_bipush (v := (10 : Int32)) X dX7_holds_1 (by decide) ?_
  obtain ⟨q1, g_q1, hf⟩ := ob_t hf
  refine j_callV X [0, 1, 2, 3, 4, 5, 6, 7, 8, 9] 0 (c_X6_begins E h g g_q1) (cut_wV_wV_c ..) rfl rfl (ws' := (wV E h g q1)) (cut_wV_wV_w ..) (wV_0 ..) rfl k_762 k_745 k_746 k_79 k_747 (⟨rfl, rfl⟩) hdV_X6_begins ⟨Nat.le_of_ble_eq_true rfl, Nat.le_of_ble_eq_true rfl⟩ rfl (Nat.le_of_ble_eq_true rfl) rfl dX7_holds_3 ?_
  refine j_iload_n X dX7_holds_6 rfl rfl ?_
  refine j_aload_n X dX7_holds_7 rfl rfl ?_
  refine j_get (C := RX6) (T := TX6) (N := 7) X iX6 0 (wV_0 ..) rfl 0 (by decide) k_278 rfl rfl dX7_holds_8 ?_
  refine j_iadd X dX7_holds_11 ?_
  obtain rfl := Option.some.inj hf
  exact j_iret X hr hlk rfl dX7_holds_12 hQ
def f_X7_leans_k3 (μ : Mem) (x2 : Int32) : Option (Mem × Int32) := (f_X6_begins μ (11 : Int32)).bind fun q1 => ((f_X7_holds_k3 q1 x2).bind fun q2 => (some (q2.1, (q2.2 * (2 : Int32)))))
set_option maxHeartbeats 4000000 in
set_option maxRecDepth 20000 in
theorem c_X7_leans_k3 (E : Ev) (h : Nat → Nat) (g : Nat → Option Nat) {μ : Mem} {x2 : Int32} {r : (Mem × Int32)} (hf : f_X7_leans_k3 μ x2 = some r) : Ct E yX7_leans cX7_leans 3 (some .int) (rmOf 2 43) (wV E h g μ) (wV E h g r.1) [.ref (h 6), .ref (h 0), .int x2] (some (.int r.2)) := by
  refine ct_start RX7 0 (by decide) rfl (Nat.le_of_ble_eq_true rfl) ?_
  intro p l e s m args below meth c A Q X hr hlk hQ
  rw [f_X7_leans_k3] at hf
  refine j_aload_n X dX7_leans_0 rfl rfl ?_
  refine j_bipush (v := (11 : Int32)) X dX7_leans_1 (by decide) ?_
  obtain ⟨q1, g_q1, hf⟩ := ob_t hf
  refine j_callV X [0, 1, 2, 3, 4, 5, 6, 7, 8, 9] 0 (c_X6_begins E h g g_q1) (cut_wV_wV_c ..) rfl rfl (ws' := (wV E h g q1)) (cut_wV_wV_w ..) (wV_0 ..) rfl k_762 k_745 k_746 k_79 k_747 (⟨rfl, rfl⟩) hdV_X6_begins ⟨Nat.le_of_ble_eq_true rfl, Nat.le_of_ble_eq_true rfl⟩ rfl (Nat.le_of_ble_eq_true rfl) rfl dX7_leans_3 ?_
  refine j_aload_n X dX7_leans_6 rfl rfl ?_
  refine j_aload_n X dX7_leans_7 rfl rfl ?_
  refine j_iload_n X dX7_leans_8 rfl rfl ?_
  obtain ⟨q2, g_q2, hf⟩ := ob_t hf
  refine j_callU (n := 2) (x := ⟨RX7, "holds", "(LStandStill$Speaker;I)I"⟩) (owner := RX7) X [0, 1, 2, 3, 4, 5, 6, 7, 8, 9] 6 (c_X7_holds_k3 E h g g_q2) (cut_wV_wV_c ..) rfl rfl (ws' := (wV E h g q2.1)) (cut_wV_wV_w ..) (wV_6 ..) rfl k_785 k_740 k_755 k_738 k_69 k_761 (⟨rfl, rfl⟩) rfl (by decide +kernel) ⟨Nat.le_of_ble_eq_true rfl, Nat.le_of_ble_eq_true rfl⟩ rfl (Nat.le_of_ble_eq_true rfl) rfl dX7_leans_9 ?_
  refine j_iconst (v := (2 : Int32)) X dX7_leans_12 (by decide) ?_
  refine j_imul X dX7_leans_13 ?_
  obtain rfl := Option.some.inj hf
  exact j_iret X hr hlk rfl dX7_leans_14 hQ
