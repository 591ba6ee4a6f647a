def f_X0_biting_k1 (μ : Mem) (x1 : Int32) : Option (Mem × Int32) := some (μ, (0 : Int32))
set_option maxHeartbeats 4000000 in
set_option maxRecDepth 20000 in
theorem c_X0_biting_k1 (E : Ev) (h : Nat → Nat) (g : Nat → Option Nat) {μ : Mem} {x1 : Int32} {r : (Mem × Int32)} (hf : f_X0_biting_k1 μ x1 = some r) : Ct E yX0_biting cX0_biting 2 (some .int) (rmOf 0 0) (wR E h g μ) (wR E h g r.1) [.ref (h 16), .int x1] (some (.int r.2)) := by
  refine ct_start RX0 0 (by decide) rfl (Nat.le_of_ble_eq_true rfl) ?_
  intro p l e s m args below meth c A Q X hr hlk hQ
  rw [f_X0_biting_k1] at hf
  refine j_iconst (v := (0 : Int32)) X dX0_biting_0 (by decide) ?_
  obtain rfl := Option.some.inj hf
  exact j_iret X hr hlk rfl dX0_biting_1 hQ
def f_X7_biting_k2 (μ : Mem) (x1 : Int32) : Option (Mem × Int32) := some (μ, (10 : Int32))
set_option maxHeartbeats 4000000 in
set_option maxRecDepth 20000 in
theorem c_X7_biting_k2 (E : Ev) (h : Nat → Nat) (g : Nat → Option Nat) {μ : Mem} {x1 : Int32} {r : (Mem × Int32)} (hf : f_X7_biting_k2 μ x1 = some r) : Ct E yX7_biting cX7_biting 2 (some .int) (rmOf 0 0) (wR E h g μ) (wR E h g r.1) [.ref (h 17), .int x1] (some (.int r.2)) := by
  refine ct_start RX7 0 (by decide) rfl (Nat.le_of_ble_eq_true rfl) ?_
  intro p l e s m args below meth c A Q X hr hlk hQ
  rw [f_X7_biting_k2] at hf
  refine j_bipush (v := (10 : Int32)) X dX7_biting_0 (by decide) ?_
  obtain rfl := Option.some.inj hf
  exact j_iret X hr hlk rfl dX7_biting_2 hQ
def f_X7_biting_k3 (μ : Mem) (x1 : Int32) : Option (Mem × Int32) := some (μ, (10 : Int32))
set_option maxHeartbeats 4000000 in
set_option maxRecDepth 20000 in
theorem c_X7_biting_k3 (E : Ev) (h : Nat → Nat) (g : Nat → Option Nat) {μ : Mem} {x1 : Int32} {r : (Mem × Int32)} (hf : f_X7_biting_k3 μ x1 = some r) : Ct E yX7_biting cX7_biting 2 (some .int) (rmOf 0 0) (wR E h g μ) (wR E h g r.1) [.ref (h 18), .int x1] (some (.int r.2)) := by
  refine ct_start RX7 0 (by decide) rfl (Nat.le_of_ble_eq_true rfl) ?_
  intro p l e s m args below meth c A Q X hr hlk hQ
  rw [f_X7_biting_k3] at hf
  refine j_bipush (v := (10 : Int32)) X dX7_biting_0 (by decide) ?_
  obtain rfl := Option.some.inj hf
  exact j_iret X hr hlk rfl dX7_biting_2 hQ
def f_X8_biting_k3 (μ : Mem) (x1 : Int32) : Option (Mem × Int32) := (f_X7_biting_k3 μ x1).bind fun q1 => (some (q1.1, (q1.2 + ((3 : Int32) * x1))))
set_option maxHeartbeats 4000000 in
set_option maxRecDepth 20000 in
theorem c_X8_biting_k3 (E : Ev) (h : Nat → Nat) (g : Nat → Option Nat) {μ : Mem} {x1 : Int32} {r : (Mem × Int32)} (hf : f_X8_biting_k3 μ x1 = some r) : Ct E yX8_biting cX8_biting 2 (some .int) (rmOf 1 21) (wR E h g μ) (wR E h g r.1) [.ref (h 18), .int x1] (some (.int r.2)) := by
  refine ct_start RX8 0 (by decide) rfl (Nat.le_of_ble_eq_true rfl) ?_
  intro p l e s m args below meth c A Q X hr hlk hQ
  rw [f_X8_biting_k3] at hf
  refine j_aload_n X dX8_biting_0 rfl rfl ?_
  refine j_iload_n X dX8_biting_1 rfl rfl ?_
  obtain ⟨q1, g_q1, hf⟩ := ob_t hf
  refine j_callSU X [0, 1, 2, 3, 4, 5, 6, 7, 8, 9, 10, 11, 12, 13, 14, 15, 16, 17, 18, 19, 20, 21] 18 (c_X7_biting_k3 E h g g_q1) (cut_wR_wR_c ..) rfl rfl (ws' := (wR E h g q1.1)) (cut_wR_wR_w ..) (wR_18 ..) rfl k_429 k_417 k_120 k_415 k_69 k_437 (⟨rfl, rfl⟩) hdSU_X7_biting ⟨Nat.le_of_ble_eq_true rfl, Nat.le_of_ble_eq_true rfl⟩ rfl (Nat.le_of_ble_eq_true rfl) rfl dX8_biting_2 ?_
  refine j_iconst (v := (3 : Int32)) X dX8_biting_5 (by decide) ?_
  refine j_iload_n X dX8_biting_6 rfl rfl ?_
  refine j_imul X dX8_biting_7 ?_
  refine j_iadd X dX8_biting_8 ?_
  obtain rfl := Option.some.inj hf
  exact j_iret X hr hlk rfl dX8_biting_9 hQ
def f_X0_biting_k4 (μ : Mem) (x1 : Int32) : Option (Mem × Int32) := some (μ, (0 : Int32))
set_option maxHeartbeats 4000000 in
set_option maxRecDepth 20000 in
theorem c_X0_biting_k4 (E : Ev) (h : Nat → Nat) (g : Nat → Option Nat) {μ : Mem} {x1 : Int32} {r : (Mem × Int32)} (hf : f_X0_biting_k4 μ x1 = some r) : Ct E yX0_biting cX0_biting 2 (some .int) (rmOf 0 0) (wR E h g μ) (wR E h g r.1) [.ref (h 19), .int x1] (some (.int r.2)) := by
  refine ct_start RX0 0 (by decide) rfl (Nat.le_of_ble_eq_true rfl) ?_
  intro p l e s m args below meth c A Q X hr hlk hQ
  rw [f_X0_biting_k4] at hf
  refine j_iconst (v := (0 : Int32)) X dX0_biting_0 (by decide) ?_
  obtain rfl := Option.some.inj hf
  exact j_iret X hr hlk rfl dX0_biting_1 hQ
def f_X3_biting_k4 (μ : Mem) (x1 : Int32) : Option (Mem × Int32) := (f_X0_biting_k4 μ x1).bind fun q1 => (some (q1.1, (q1.2 + (2 : Int32))))
set_option maxHeartbeats 4000000 in
set_option maxRecDepth 20000 in
theorem c_X3_biting_k4 (E : Ev) (h : Nat → Nat) (g : Nat → Option Nat) {μ : Mem} {x1 : Int32} {r : (Mem × Int32)} (hf : f_X3_biting_k4 μ x1 = some r) : Ct E yX3_biting cX3_biting 2 (some .int) (rmOf 1 21) (wR E h g μ) (wR E h g r.1) [.ref (h 19), .int x1] (some (.int r.2)) := by
  refine ct_start RX3 0 (by decide) rfl (Nat.le_of_ble_eq_true rfl) ?_
  intro p l e s m args below meth c A Q X hr hlk hQ
  rw [f_X3_biting_k4] at hf
  refine j_aload_n X dX3_biting_0 rfl rfl ?_
  refine j_iload_n X dX3_biting_1 rfl rfl ?_
  obtain ⟨q1, g_q1, hf⟩ := ob_t hf
  refine j_callSU X [0, 1, 2, 3, 4, 5, 6, 7, 8, 9, 10, 11, 12, 13, 14, 15, 16, 17, 18, 19, 20, 21] 19 (c_X0_biting_k4 E h g g_q1) (cut_wR_wR_c ..) rfl rfl (ws' := (wR E h g q1.1)) (cut_wR_wR_w ..) (wR_19 ..) rfl k_425 k_1339 k_127 k_419 k_70 k_420 (⟨rfl, rfl⟩) hdSU_X0_biting ⟨Nat.le_of_ble_eq_true rfl, Nat.le_of_ble_eq_true rfl⟩ rfl (Nat.le_of_ble_eq_true rfl) rfl dX3_biting_2 ?_
  refine j_iconst (v := (2 : Int32)) X dX3_biting_5 (by decide) ?_
  refine j_iadd X dX3_biting_6 ?_
  obtain rfl := Option.some.inj hf
  exact j_iret X hr hlk rfl dX3_biting_7 hQ
def f_X7_biting_k5 (μ : Mem) (x1 : Int32) : Option (Mem × Int32) := some (μ, (10 : Int32))
set_option maxHeartbeats 4000000 in
set_option maxRecDepth 20000 in
theorem c_X7_biting_k5 (E : Ev) (h : Nat → Nat) (g : Nat → Option Nat) {μ : Mem} {x1 : Int32} {r : (Mem × Int32)} (hf : f_X7_biting_k5 μ x1 = some r) : Ct E yX7_biting cX7_biting 2 (some .int) (rmOf 0 0) (wR E h g μ) (wR E h g r.1) [.ref (h 20), .int x1] (some (.int r.2)) := by
  refine ct_start RX7 0 (by decide) rfl (Nat.le_of_ble_eq_true rfl) ?_
  intro p l e s m args below meth c A Q X hr hlk hQ
  rw [f_X7_biting_k5] at hf
  refine j_bipush (v := (10 : Int32)) X dX7_biting_0 (by decide) ?_
  obtain rfl := Option.some.inj hf
  exact j_iret X hr hlk rfl dX7_biting_2 hQ
def f_X10_biting_k5 (μ : Mem) (x1 : Int32) : Option (Mem × Int32) := (f_X7_biting_k5 μ x1).bind fun q1 => (some (q1.1, ((2 : Int32) * q1.2)))
set_option maxHeartbeats 4000000 in
set_option maxRecDepth 20000 in
theorem c_X10_biting_k5 (E : Ev) (h : Nat → Nat) (g : Nat → Option Nat) {μ : Mem} {x1 : Int32} {r : (Mem × Int32)} (hf : f_X10_biting_k5 μ x1 = some r) : Ct E yX10_biting cX10_biting 2 (some .int) (rmOf 1 21) (wR E h g μ) (wR E h g r.1) [.ref (h 20), .int x1] (some (.int r.2)) := by
  refine ct_start RX10 0 (by decide) rfl (Nat.le_of_ble_eq_true rfl) ?_
  intro p l e s m args below meth c A Q X hr hlk hQ
  rw [f_X10_biting_k5] at hf
  refine j_iconst (v := (2 : Int32)) X dX10_biting_0 (by decide) ?_
  refine j_aload_n X dX10_biting_1 rfl rfl ?_
  refine j_iload_n X dX10_biting_2 rfl rfl ?_
  obtain ⟨q1, g_q1, hf⟩ := ob_t hf
  refine j_callSX (n := 1) (x := ⟨RX2, "biting", "(I)I"⟩) (owner := RX7) X [0, 1, 2, 3, 4, 5, 6, 7, 8, 9, 10, 11, 12, 13, 14, 15, 16, 17, 18, 19, 20, 21] 20 (c_X7_biting_k5 E h g g_q1) (cut_wR_wR_c ..) rfl rfl (ws' := (wR E h g q1.1)) (cut_wR_wR_w ..) (wR_20 ..) rfl k_434 k_435 k_134 k_113 k_415 k_69 k_437 (⟨rfl, rfl⟩) rfl (by decide +kernel) ⟨Nat.le_of_ble_eq_true rfl, Nat.le_of_ble_eq_true rfl⟩ rfl (Nat.le_of_ble_eq_true rfl) rfl dX10_biting_3 ?_
  refine j_imul X dX10_biting_6 ?_
  obtain rfl := Option.some.inj hf
  exact j_iret X hr hlk rfl dX10_biting_7 hQ
def f_X7_biting_k6 (μ : Mem) (x1 : Int32) : Option (Mem × Int32) := some (μ, (10 : Int32))
set_option maxHeartbeats 4000000 in
set_option maxRecDepth 20000 in
theorem c_X7_biting_k6 (E : Ev) (h : Nat → Nat) (g : Nat → Option Nat) {μ : Mem} {x1 : Int32} {r : (Mem × Int32)} (hf : f_X7_biting_k6 μ x1 = some r) : Ct E yX7_biting cX7_biting 2 (some .int) (rmOf 0 0) (wR E h g μ) (wR E h g r.1) [.ref (h 21), .int x1] (some (.int r.2)) := by
  refine ct_start RX7 0 (by decide) rfl (Nat.le_of_ble_eq_true rfl) ?_
  intro p l e s m args below meth c A Q X hr hlk hQ
  rw [f_X7_biting_k6] at hf
  refine j_bipush (v := (10 : Int32)) X dX7_biting_0 (by decide) ?_
  obtain rfl := Option.some.inj hf
  exact j_iret X hr hlk rfl dX7_biting_2 hQ
def f_X4_bite (μ : Mem) (x1 : Int32) : Option (Mem × Int32) := (f_X4_kindOf μ x1).bind fun q1 => ((if q1.2 = 15 then (if inb x1 9 = true then (f_X7_biting_k0 q1.1 (q1.1 2 x1.toNatClampNeg)).bind fun q3 => (some (q3.1, q3.2)) else none) else (if q1.2 = 16 then (if inb x1 9 = true then (f_X0_biting_k1 q1.1 (q1.1 2 x1.toNatClampNeg)).bind fun q5 => (some (q5.1, q5.2)) else none) else (if q1.2 = 17 then (if inb x1 9 = true then (f_X7_biting_k2 q1.1 (q1.1 2 x1.toNatClampNeg)).bind fun q7 => (some (q7.1, q7.2)) else none) else (if q1.2 = 18 then (if inb x1 9 = true then (f_X8_biting_k3 q1.1 (q1.1 2 x1.toNatClampNeg)).bind fun q9 => (some (q9.1, q9.2)) else none) else (if q1.2 = 19 then (if inb x1 9 = true then (f_X3_biting_k4 q1.1 (q1.1 2 x1.toNatClampNeg)).bind fun q11 => (some (q11.1, q11.2)) else none) else (if q1.2 = 20 then (if inb x1 9 = true then (f_X10_biting_k5 q1.1 (q1.1 2 x1.toNatClampNeg)).bind fun q13 => (some (q13.1, q13.2)) else none) else (if q1.2 = 21 then (if inb x1 9 = true then (f_X7_biting_k6 q1.1 (q1.1 2 x1.toNatClampNeg)).bind fun q15 => (some (q15.1, q15.2)) else none) else none))))))))
set_option maxHeartbeats 4000000 in
set_option maxRecDepth 20000 in
theorem c_X4_bite (E : Ev) (h : Nat → Nat) (g : Nat → Option Nat) {μ : Mem} {x1 : Int32} {r : (Mem × Int32)} (hf : f_X4_bite μ x1 = some r) : Ct E yX4_bite cX4_bite 2 (some .int) (rmOf 2 42) (wR E h g μ) (wR E h g r.1) [.ref (h 0), .int x1] (some (.int r.2)) := by
  refine ct_start RX4 0 (by decide) rfl (Nat.le_of_ble_eq_true rfl) ?_
  intro p l e s m args below meth c A Q X hr hlk hQ
  rw [f_X4_bite] at hf
  refine j_aload_n X dX4_bite_0 rfl rfl ?_
  refine j_iload_n X dX4_bite_1 rfl rfl ?_
  obtain ⟨q1, g_q1, hf⟩ := ob_t hf
  refine j_callV X [0, 1, 2, 3, 4, 5, 6, 7, 8, 9, 10, 11, 12, 13, 14, 15, 16, 17, 18, 19, 20, 21] 0 (c_X4_kindOf E h g g_q1) (cut_wR_wR_c ..) rfl rfl (ws' := (wR E h g q1.1)) (cut_wR_wR_w ..) (wR_0 ..) rfl k_364 k_365 k_366 k_78 k_367 (⟨rfl, rfl⟩) hdV_X4_kindOf ⟨Nat.le_of_ble_eq_true rfl, Nat.le_of_ble_eq_true rfl⟩ rfl (Nat.le_of_ble_eq_true rfl) rfl dX4_bite_2 ?_
  by_cases n_2_0 : q1.2 = 15
  · replace hf := (if_pos n_2_0).symm.trans hf
    refine j_stk (st' := [.ref (h 15)]) (by rw [n_2_0]; rfl) ?_
    refine j_aload_n X dX4_bite_5 rfl rfl ?_
    refine j_get (C := RX4) (T := TX4) (N := 10) X iX4 0 (wR_0 ..) rfl 1 (by decide) k_191 rfl rfl dX4_bite_6 ?_
    refine j_iload_n X dX4_bite_9 rfl rfl ?_
    obtain ⟨c2, hf⟩ := oi_in hf
    refine j_iald X 2 (wR_2 ..) c2 dX4_bite_10 ?_
    obtain ⟨q3, g_q3, hf⟩ := ob_t hf
    refine j_callV X [0, 1, 2, 3, 4, 5, 6, 7, 8, 9, 10, 11, 12, 13, 14, 15, 16, 17, 18, 19, 20, 21] 15 (c_X7_biting_k0 E h g g_q3) (cut_wR_wR_c ..) rfl rfl (ws' := (wR E h g q3.1)) (cut_wR_wR_w ..) (wR_15 ..) rfl k_414 k_415 k_416 k_69 k_437 (⟨rfl, rfl⟩) hdV_X7_biting ⟨Nat.le_of_ble_eq_true rfl, Nat.le_of_ble_eq_true rfl⟩ rfl (Nat.le_of_ble_eq_true rfl) rfl dX4_bite_11 ?_
    obtain rfl := Option.some.inj hf
    exact j_iret X hr hlk rfl dX4_bite_14 hQ
  · replace hf := (if_neg n_2_0).symm.trans hf
    by_cases n_2_1 : q1.2 = 16
    · replace hf := (if_pos n_2_1).symm.trans hf
      refine j_stk (st' := [.ref (h 16)]) (by rw [n_2_1]; rfl) ?_
      refine j_aload_n X dX4_bite_5 rfl rfl ?_
      refine j_get (C := RX4) (T := TX4) (N := 10) X iX4 0 (wR_0 ..) rfl 1 (by decide) k_191 rfl rfl dX4_bite_6 ?_
      refine j_iload_n X dX4_bite_9 rfl rfl ?_
      obtain ⟨c4, hf⟩ := oi_in hf
      refine j_iald X 2 (wR_2 ..) c4 dX4_bite_10 ?_
      obtain ⟨q5, g_q5, hf⟩ := ob_t hf
      refine j_callO (n := 1) (x := ⟨RX7, "biting", "(I)I"⟩) (owner := RX7) X [0, 1, 2, 3, 4, 5, 6, 7, 8, 9, 10, 11, 12, 13, 14, 15, 16, 17, 18, 19, 20, 21] 16 (c_X0_biting_k1 E h g g_q5) (cut_wR_wR_c ..) rfl rfl (ws' := (wR E h g q5.1)) (cut_wR_wR_w ..) (wR_16 ..) rfl k_414 k_417 k_415 k_418 k_419 k_70 k_420 (⟨rfl, rfl⟩) k_437 (by decide +kernel) ⟨Nat.le_of_ble_eq_true rfl, Nat.le_of_ble_eq_true rfl⟩ rfl (Nat.le_of_ble_eq_true rfl) rfl dX4_bite_11 ?_
      obtain rfl := Option.some.inj hf
      exact j_iret X hr hlk rfl dX4_bite_14 hQ
    · replace hf := (if_neg n_2_1).symm.trans hf
      by_cases n_2_2 : q1.2 = 17
      · replace hf := (if_pos n_2_2).symm.trans hf
        refine j_stk (st' := [.ref (h 17)]) (by rw [n_2_2]; rfl) ?_
        refine j_aload_n X dX4_bite_5 rfl rfl ?_
        refine j_get (C := RX4) (T := TX4) (N := 10) X iX4 0 (wR_0 ..) rfl 1 (by decide) k_191 rfl rfl dX4_bite_6 ?_
        refine j_iload_n X dX4_bite_9 rfl rfl ?_
        obtain ⟨c6, hf⟩ := oi_in hf
        refine j_iald X 2 (wR_2 ..) c6 dX4_bite_10 ?_
        obtain ⟨q7, g_q7, hf⟩ := ob_t hf
        refine j_callU (n := 1) (x := ⟨RX7, "biting", "(I)I"⟩) (owner := RX7) X [0, 1, 2, 3, 4, 5, 6, 7, 8, 9, 10, 11, 12, 13, 14, 15, 16, 17, 18, 19, 20, 21] 17 (c_X7_biting_k2 E h g g_q7) (cut_wR_wR_c ..) rfl rfl (ws' := (wR E h g q7.1)) (cut_wR_wR_w ..) (wR_17 ..) rfl k_414 k_417 k_421 k_415 k_69 k_437 (⟨rfl, rfl⟩) rfl (by decide +kernel) ⟨Nat.le_of_ble_eq_true rfl, Nat.le_of_ble_eq_true rfl⟩ rfl (Nat.le_of_ble_eq_true rfl) rfl dX4_bite_11 ?_
        obtain rfl := Option.some.inj hf
        exact j_iret X hr hlk rfl dX4_bite_14 hQ
      · replace hf := (if_neg n_2_2).symm.trans hf
        by_cases n_2_3 : q1.2 = 18
        · replace hf := (if_pos n_2_3).symm.trans hf
          refine j_stk (st' := [.ref (h 18)]) (by rw [n_2_3]; rfl) ?_
          refine j_aload_n X dX4_bite_5 rfl rfl ?_
          refine j_get (C := RX4) (T := TX4) (N := 10) X iX4 0 (wR_0 ..) rfl 1 (by decide) k_191 rfl rfl dX4_bite_6 ?_
          refine j_iload_n X dX4_bite_9 rfl rfl ?_
          obtain ⟨c8, hf⟩ := oi_in hf
          refine j_iald X 2 (wR_2 ..) c8 dX4_bite_10 ?_
          obtain ⟨q9, g_q9, hf⟩ := ob_t hf
          refine j_callO (n := 1) (x := ⟨RX7, "biting", "(I)I"⟩) (owner := RX7) X [0, 1, 2, 3, 4, 5, 6, 7, 8, 9, 10, 11, 12, 13, 14, 15, 16, 17, 18, 19, 20, 21] 18 (c_X8_biting_k3 E h g g_q9) (cut_wR_wR_c ..) rfl rfl (ws' := (wR E h g q9.1)) (cut_wR_wR_w ..) (wR_18 ..) rfl k_414 k_417 k_415 k_426 k_427 k_72 k_428 (⟨rfl, rfl⟩) k_437 (by decide +kernel) ⟨Nat.le_of_ble_eq_true rfl, Nat.le_of_ble_eq_true rfl⟩ rfl (Nat.le_of_ble_eq_true rfl) rfl dX4_bite_11 ?_
          obtain rfl := Option.some.inj hf
          exact j_iret X hr hlk rfl dX4_bite_14 hQ
        · replace hf := (if_neg n_2_3).symm.trans hf
          by_cases n_2_4 : q1.2 = 19
          · replace hf := (if_pos n_2_4).symm.trans hf
            refine j_stk (st' := [.ref (h 19)]) (by rw [n_2_4]; rfl) ?_
            refine j_aload_n X dX4_bite_5 rfl rfl ?_
            refine j_get (C := RX4) (T := TX4) (N := 10) X iX4 0 (wR_0 ..) rfl 1 (by decide) k_191 rfl rfl dX4_bite_6 ?_
            refine j_iload_n X dX4_bite_9 rfl rfl ?_
            obtain ⟨c10, hf⟩ := oi_in hf
            refine j_iald X 2 (wR_2 ..) c10 dX4_bite_10 ?_
            obtain ⟨q11, g_q11, hf⟩ := ob_t hf
            refine j_callO (n := 1) (x := ⟨RX7, "biting", "(I)I"⟩) (owner := RX7) X [0, 1, 2, 3, 4, 5, 6, 7, 8, 9, 10, 11, 12, 13, 14, 15, 16, 17, 18, 19, 20, 21] 19 (c_X3_biting_k4 E h g g_q11) (cut_wR_wR_c ..) rfl rfl (ws' := (wR E h g q11.1)) (cut_wR_wR_w ..) (wR_19 ..) rfl k_414 k_417 k_415 k_422 k_423 k_73 k_424 (⟨rfl, rfl⟩) k_437 (by decide +kernel) ⟨Nat.le_of_ble_eq_true rfl, Nat.le_of_ble_eq_true rfl⟩ rfl (Nat.le_of_ble_eq_true rfl) rfl dX4_bite_11 ?_
            obtain rfl := Option.some.inj hf
            exact j_iret X hr hlk rfl dX4_bite_14 hQ
          · replace hf := (if_neg n_2_4).symm.trans hf
            by_cases n_2_5 : q1.2 = 20
            · replace hf := (if_pos n_2_5).symm.trans hf
              refine j_stk (st' := [.ref (h 20)]) (by rw [n_2_5]; rfl) ?_
              refine j_aload_n X dX4_bite_5 rfl rfl ?_
              refine j_get (C := RX4) (T := TX4) (N := 10) X iX4 0 (wR_0 ..) rfl 1 (by decide) k_191 rfl rfl dX4_bite_6 ?_
              refine j_iload_n X dX4_bite_9 rfl rfl ?_
              obtain ⟨c12, hf⟩ := oi_in hf
              refine j_iald X 2 (wR_2 ..) c12 dX4_bite_10 ?_
              obtain ⟨q13, g_q13, hf⟩ := ob_t hf
              refine j_callO (n := 1) (x := ⟨RX7, "biting", "(I)I"⟩) (owner := RX7) X [0, 1, 2, 3, 4, 5, 6, 7, 8, 9, 10, 11, 12, 13, 14, 15, 16, 17, 18, 19, 20, 21] 20 (c_X10_biting_k5 E h g g_q13) (cut_wR_wR_c ..) rfl rfl (ws' := (wR E h g q13.1)) (cut_wR_wR_w ..) (wR_20 ..) rfl k_414 k_417 k_415 k_431 k_432 k_74 k_433 (⟨rfl, rfl⟩) k_437 (by decide +kernel) ⟨Nat.le_of_ble_eq_true rfl, Nat.le_of_ble_eq_true rfl⟩ rfl (Nat.le_of_ble_eq_true rfl) rfl dX4_bite_11 ?_
              obtain rfl := Option.some.inj hf
              exact j_iret X hr hlk rfl dX4_bite_14 hQ
            · replace hf := (if_neg n_2_5).symm.trans hf
              by_cases n_2_6 : q1.2 = 21
              · replace hf := (if_pos n_2_6).symm.trans hf
                refine j_stk (st' := [.ref (h 21)]) (by rw [n_2_6]; rfl) ?_
                refine j_aload_n X dX4_bite_5 rfl rfl ?_
                refine j_get (C := RX4) (T := TX4) (N := 10) X iX4 0 (wR_0 ..) rfl 1 (by decide) k_191 rfl rfl dX4_bite_6 ?_
                refine j_iload_n X dX4_bite_9 rfl rfl ?_
                obtain ⟨c14, hf⟩ := oi_in hf
                refine j_iald X 2 (wR_2 ..) c14 dX4_bite_10 ?_
                obtain ⟨q15, g_q15, hf⟩ := ob_t hf
                refine j_callU (n := 1) (x := ⟨RX7, "biting", "(I)I"⟩) (owner := RX7) X [0, 1, 2, 3, 4, 5, 6, 7, 8, 9, 10, 11, 12, 13, 14, 15, 16, 17, 18, 19, 20, 21] 21 (c_X7_biting_k6 E h g g_q15) (cut_wR_wR_c ..) rfl rfl (ws' := (wR E h g q15.1)) (cut_wR_wR_w ..) (wR_21 ..) rfl k_414 k_417 k_430 k_415 k_69 k_437 (⟨rfl, rfl⟩) rfl (by decide +kernel) ⟨Nat.le_of_ble_eq_true rfl, Nat.le_of_ble_eq_true rfl⟩ rfl (Nat.le_of_ble_eq_true rfl) rfl dX4_bite_11 ?_
                obtain rfl := Option.some.inj hf
                exact j_iret X hr hlk rfl dX4_bite_14 hQ
              · replace hf := (if_neg n_2_6).symm.trans hf
                cases hf
def f_X4_passMinute_L12 : Nat → Mem → Int32 → Option (Mem × Int32)
  | 0, _, _ => none
  | n + 1, μ, x1 => (if (9 : Int32) ≤ x1 then (f_X4_settle μ).bind fun q2 => (some (q2.1, q2.2)) else (f_X4_stands μ x1).bind fun q3 => ((if q3.2 = 0 then (f_X4_passMinute_L12 n) q3.1 (x1 + (1 : Int32)) else (f_X4_spends q3.1 x1).bind fun q4 => ((f_X4_lessen q4.1 x1 q4.2).bind fun q5 => ((f_X4_passMinute_L12 n) q5 (x1 + (1 : Int32)))))))
def f_X4_passMinute (μ : Mem) : Option (Mem × Int32) := bd (upA μ 0 (upd (μ 0) 6 ((μ 0 6) + (1 : Int32)))) fun μ1 => (f_X4_passMinute_L12 fuel0 μ1 (0 : Int32))
set_option maxHeartbeats 4000000 in
set_option maxRecDepth 20000 in
theorem c_X4_passMinute (E : Ev) (h : Nat → Nat) (g : Nat → Option Nat) {μ : Mem} {r : (Mem × Int32)} (hf : f_X4_passMinute μ = some r) : Ct E yX4_passMinute cX4_passMinute 2 (some .int) (rmOf 4 93) (wR E h g μ) (wR E h g r.1) [.ref (h 0)] (some (.int r.2)) := by
  refine ct_start RX4 1 (by decide) rfl (Nat.le_of_ble_eq_true rfl) ?_
  intro p l e s m args below meth c A Q X hr hlk hQ
  have lab12 : ∀ (n : Nat) (μ : Mem) (x1 : Int32), f_X4_passMinute_L12 n μ x1 = some r → J p l e (rmOf 4 93) s m args below meth c E A 2 Q (wR E h g μ) [some (.ref (h 0)), some (.int x1)] 12 [] := by
    intro n
    induction n with
    | zero => intro μ x1 hf; cases (show none = some r from hf)
    | succ n ih =>
      intro μ x1 hf
      rw [f_X4_passMinute_L12] at hf
      refine j_iload_n X dX4_passMinute_12 rfl rfl ?_
      refine j_bipush (v := (9 : Int32)) X dX4_passMinute_13 (by decide) ?_
      refine j_icmp_ge (tgt := 42) X dX4_passMinute_15 (by decide) (fun c_15 => ?_) (fun c_15 => ?_)
      · replace hf := (if_pos c_15).symm.trans hf
        refine j_aload_n X dX4_passMinute_42 rfl rfl ?_
        obtain ⟨q2, g_q2, hf⟩ := ob_t hf
        refine j_callV X [0, 1, 2, 3, 4, 5, 6, 7, 8, 9, 10, 11, 12, 13, 14, 15, 16, 17, 18, 19, 20, 21] 0 (c_X4_settle E h g g_q2) (cut_wR_wR_c ..) rfl rfl (ws' := (wR E h g q2.1)) (cut_wR_wR_w ..) (wR_0 ..) rfl k_598 k_459 k_460 k_78 k_461 (⟨rfl, rfl⟩) hdV_X4_settle ⟨Nat.le_of_ble_eq_true rfl, Nat.le_of_ble_eq_true rfl⟩ rfl (Nat.le_of_ble_eq_true rfl) rfl dX4_passMinute_43 ?_
        obtain rfl := Option.some.inj hf
        exact j_iret X hr hlk rfl dX4_passMinute_46 hQ
      · replace hf := (if_neg c_15).symm.trans hf
        refine j_aload_n X dX4_passMinute_18 rfl rfl ?_
        refine j_iload_n X dX4_passMinute_19 rfl rfl ?_
        obtain ⟨q3, g_q3, hf⟩ := ob_t hf
        refine j_callV X [0, 1, 2, 3, 4, 5, 6, 7, 8, 9, 10, 11, 12, 13, 14, 15, 16, 17, 18, 19, 20, 21] 0 (c_X4_stands E h g g_q3) (cut_wR_wR_c ..) rfl rfl (ws' := (wR E h g q3.1)) (cut_wR_wR_w ..) (wR_0 ..) rfl k_466 k_455 k_456 k_78 k_457 (⟨rfl, rfl⟩) hdV_X4_stands ⟨Nat.le_of_ble_eq_true rfl, Nat.le_of_ble_eq_true rfl⟩ rfl (Nat.le_of_ble_eq_true rfl) rfl dX4_passMinute_20 ?_
        refine j_if_eq (tgt := 36) X dX4_passMinute_23 (by decide) (fun c_23 => ?_) (fun c_23 => ?_)
        · replace hf := (if_pos c_23).symm.trans hf
          refine j_iinc1 (k := (1 : Int32)) X dX4_passMinute_36 (by decide) (by decide) rfl ?_
          refine j_goto (tgt := 12) X dX4_passMinute_39 (by decide) ?_
          refine j_keep [true, true] rfl ?_
          exact ih _ _ hf
        · replace hf := (if_neg c_23).symm.trans hf
          refine j_aload_n X dX4_passMinute_26 rfl rfl ?_
          refine j_iload_n X dX4_passMinute_27 rfl rfl ?_
          refine j_aload_n X dX4_passMinute_28 rfl rfl ?_
          refine j_iload_n X dX4_passMinute_29 rfl rfl ?_
          obtain ⟨q4, g_q4, hf⟩ := ob_t hf
          refine j_callV X [0, 1, 2, 3, 4, 5, 6, 7, 8, 9, 10, 11, 12, 13, 14, 15, 16, 17, 18, 19, 20, 21] 0 (c_X4_spends E h g g_q4) (cut_wR_wR_c ..) rfl rfl (ws' := (wR E h g q4.1)) (cut_wR_wR_w ..) (wR_0 ..) rfl k_597 k_361 k_362 k_78 k_363 (⟨rfl, rfl⟩) hdV_X4_spends ⟨Nat.le_of_ble_eq_true rfl, Nat.le_of_ble_eq_true rfl⟩ rfl (Nat.le_of_ble_eq_true rfl) rfl dX4_passMinute_30 ?_
          obtain ⟨q5, g_q5, hf⟩ := ob_t hf
          refine j_callV X [0, 1, 2, 3, 4, 5, 6, 7, 8, 9, 10, 11, 12, 13, 14, 15, 16, 17, 18, 19, 20, 21] 0 (c_X4_lessen E h g g_q5) (cut_wR_wR_c ..) rfl rfl (ws' := (wR E h g q5)) (cut_wR_wR_w ..) (wR_0 ..) rfl k_476 k_478 k_3 k_78 k_479 (⟨rfl, rfl⟩) hdV_X4_lessen ⟨Nat.le_of_ble_eq_true rfl, Nat.le_of_ble_eq_true rfl⟩ rfl (Nat.le_of_ble_eq_true rfl) rfl dX4_passMinute_33 ?_
          refine j_iinc1 (k := (1 : Int32)) X dX4_passMinute_36 (by decide) (by decide) rfl ?_
          refine j_goto (tgt := 12) X dX4_passMinute_39 (by decide) ?_
          refine j_keep [true, true] rfl ?_
          exact ih _ _ hf
  rw [f_X4_passMinute] at hf
  refine j_aload_n X dX4_passMinute_0 rfl rfl ?_
  refine j_dup X dX4_passMinute_1 rfl ?_
  refine j_get (C := RX4) (T := TX4) (N := 10) X iX4 0 (wR_0 ..) rfl 6 (by decide) k_207 rfl rfl dX4_passMinute_2 ?_
  refine j_iconst (v := (1 : Int32)) X dX4_passMinute_5 (by decide) ?_
  refine j_iadd X dX4_passMinute_6 ?_
  obtain ⟨μ1, e_μ1, hf⟩ := bd_e hf
  refine j_put (C := RX4) (T := TX4) (N := 10) X iX4 0 (wR_0 ..) rfl 6 (by decide) k_207 rfl tyX4 tyX4_ok nmX4 rfl (ty := .int) (by decide +kernel) rfl rfl (Nat.le_of_ble_eq_true rfl) dX4_passMinute_7 (ws' := (wR E h g μ1)) (by rw [e_μ1]; exact wR_f0_6 ..) ?_
  refine j_iconst (v := (0 : Int32)) X dX4_passMinute_10 (by decide) ?_
  refine j_istore_n1 X dX4_passMinute_11 rfl (by decide) rfl ?_
  refine j_keep [true, true] rfl ?_
  exact lab12 _ _ _ hf
def f_X4_pass_L4 : Nat → Mem → Int32 → Int32 → Int32 → Option (Mem × Int32)
  | 0, _, _, _, _ => none
  | n + 1, μ, x1, x2, x3 => (if x1 ≤ x3 then some (μ, x2) else (f_X4_passMinute μ).bind fun q1 => (bd (x2 + q1.2) fun y2 => ((f_X4_pass_L4 n) q1.1 x1 y2 (x3 + (1 : Int32)))))
def f_X4_pass (μ : Mem) (x1 : Int32) : Option (Mem × Int32) := f_X4_pass_L4 fuel0 μ x1 (0 : Int32) (0 : Int32)
set_option maxHeartbeats 4000000 in
set_option maxRecDepth 20000 in
theorem c_X4_pass (E : Ev) (h : Nat → Nat) (g : Nat → Option Nat) {μ : Mem} {x1 : Int32} {r : (Mem × Int32)} (hf : f_X4_pass μ x1 = some r) : Ct E yX4_pass cX4_pass 4 (some .int) (rmOf 5 114) (wR E h g μ) (wR E h g r.1) [.ref (h 0), .int x1] (some (.int r.2)) := by
  refine ct_start RX4 2 (by decide) rfl (Nat.le_of_ble_eq_true rfl) ?_
  intro p l e s m args below meth c A Q X hr hlk hQ
  have lab4 : ∀ (n : Nat) (μ : Mem) (x1 : Int32) (x2 : Int32) (x3 : Int32), f_X4_pass_L4 n μ x1 x2 x3 = some r → J p l e (rmOf 5 114) s m args below meth c E A 4 Q (wR E h g μ) [some (.ref (h 0)), some (.int x1), some (.int x2), some (.int x3)] 4 [] := by
    intro n
    induction n with
    | zero => intro μ x1 x2 x3 hf; cases (show none = some r from hf)
    | succ n ih =>
      intro μ x1 x2 x3 hf
      rw [f_X4_pass_L4] at hf
      refine j_iload_n X dX4_pass_4 rfl rfl ?_
      refine j_iload_n X dX4_pass_5 rfl rfl ?_
      refine j_icmp_ge (tgt := 22) X dX4_pass_6 (by decide) (fun c_6 => ?_) (fun c_6 => ?_)
      · replace hf := (if_pos c_6).symm.trans hf
        refine j_iload_n X dX4_pass_22 rfl rfl ?_
        obtain rfl := Option.some.inj hf
        exact j_iret X hr hlk rfl dX4_pass_23 hQ
      · replace hf := (if_neg c_6).symm.trans hf
        refine j_iload_n X dX4_pass_9 rfl rfl ?_
        refine j_aload_n X dX4_pass_10 rfl rfl ?_
        obtain ⟨q1, g_q1, hf⟩ := ob_t hf
        refine j_callV X [0, 1, 2, 3, 4, 5, 6, 7, 8, 9, 10, 11, 12, 13, 14, 15, 16, 17, 18, 19, 20, 21] 0 (c_X4_passMinute E h g g_q1) (cut_wR_wR_c ..) rfl rfl (ws' := (wR E h g q1.1)) (cut_wR_wR_w ..) (wR_0 ..) rfl k_593 k_594 k_595 k_78 k_596 (⟨rfl, rfl⟩) hdV_X4_passMinute ⟨Nat.le_of_ble_eq_true rfl, Nat.le_of_ble_eq_true rfl⟩ rfl (Nat.le_of_ble_eq_true rfl) rfl dX4_pass_11 ?_
        refine j_iadd X dX4_pass_14 ?_
        obtain ⟨y2, e_y2, hf⟩ := bd_e hf
        refine j_top e_y2 ?_
        refine j_istore_n2 X dX4_pass_15 rfl (by decide) rfl ?_
        refine j_iinc3 (k := (1 : Int32)) X dX4_pass_16 (by decide) (by decide) rfl ?_
        refine j_goto (tgt := 4) X dX4_pass_19 (by decide) ?_
        refine j_keep [true, true, true, true] rfl ?_
        exact ih _ _ _ _ hf
  rw [f_X4_pass] at hf
  refine j_iconst (v := (0 : Int32)) X dX4_pass_0 (by decide) ?_
  refine j_istore_n2 X dX4_pass_1 rfl (by decide) rfl ?_
  refine j_iconst (v := (0 : Int32)) X dX4_pass_2 (by decide) ?_
  refine j_istore_n3 X dX4_pass_3 rfl (by decide) rfl ?_
  refine j_keep [true, true, true, true] rfl ?_
  exact lab4 _ _ _ _ _ hf
def f_X4_flyAt (μ : Mem) (x1 : Int32) : Option (Mem × Int32) := (f_X4_whoIsAt μ x1).bind fun q1 => ((if q1.2 < 0 then (f_X4_settle q1.1).bind fun q2 => (some (q2.1, q2.2)) else (f_X4_stands q1.1 q1.2).bind fun q3 => ((if q3.2 = 0 then (f_X4_settle q3.1).bind fun q4 => (some (q4.1, q4.2)) else (f_X4_bite q3.1 q1.2).bind fun q5 => ((f_X4_lessen q5.1 q1.2 q5.2).bind fun q6 => ((f_X4_settle q6).bind fun q7 => (some (q7.1, q7.2))))))))
set_option maxHeartbeats 4000000 in
set_option maxRecDepth 20000 in
theorem c_X4_flyAt (E : Ev) (h : Nat → Nat) (g : Nat → Option Nat) {μ : Mem} {x1 : Int32} {r : (Mem × Int32)} (hf : f_X4_flyAt μ x1 = some r) : Ct E yX4_flyAt cX4_flyAt 3 (some .int) (rmOf 4 93) (wR E h g μ) (wR E h g r.1) [.ref (h 0), .int x1] (some (.int r.2)) := by
  refine ct_start RX4 1 (by decide) rfl (Nat.le_of_ble_eq_true rfl) ?_
  intro p l e s m args below meth c A Q X hr hlk hQ
  rw [f_X4_flyAt] at hf
  refine j_aload_n X dX4_flyAt_0 rfl rfl ?_
  refine j_iload_n X dX4_flyAt_1 rfl rfl ?_
  obtain ⟨q1, g_q1, hf⟩ := ob_t hf
  refine j_callV X [0, 1, 2, 3, 4, 5, 6, 7, 8, 9, 10, 11, 12, 13, 14, 15, 16, 17, 18, 19, 20, 21] 0 (c_X4_whoIsAt E h g g_q1) (cut_wR_wR_c ..) rfl rfl (ws' := (wR E h g q1.1)) (cut_wR_wR_w ..) (wR_0 ..) rfl k_607 k_504 k_505 k_78 k_506 (⟨rfl, rfl⟩) hdV_X4_whoIsAt ⟨Nat.le_of_ble_eq_true rfl, Nat.le_of_ble_eq_true rfl⟩ rfl (Nat.le_of_ble_eq_true rfl) rfl dX4_flyAt_2 ?_
  refine j_istore_n2 X dX4_flyAt_5 rfl (by decide) rfl ?_
  refine j_iload_n X dX4_flyAt_6 rfl rfl ?_
  refine j_if_lt (tgt := 28) X dX4_flyAt_7 (by decide) (fun c_7 => ?_) (fun c_7 => ?_)
  · replace hf := (if_pos c_7).symm.trans hf
    refine j_aload_n X dX4_flyAt_28 rfl rfl ?_
    obtain ⟨q2, g_q2, hf⟩ := ob_t hf
    refine j_callV X [0, 1, 2, 3, 4, 5, 6, 7, 8, 9, 10, 11, 12, 13, 14, 15, 16, 17, 18, 19, 20, 21] 0 (c_X4_settle E h g g_q2) (cut_wR_wR_c ..) rfl rfl (ws' := (wR E h g q2.1)) (cut_wR_wR_w ..) (wR_0 ..) rfl k_598 k_459 k_460 k_78 k_461 (⟨rfl, rfl⟩) hdV_X4_settle ⟨Nat.le_of_ble_eq_true rfl, Nat.le_of_ble_eq_true rfl⟩ rfl (Nat.le_of_ble_eq_true rfl) rfl dX4_flyAt_29 ?_
    obtain rfl := Option.some.inj hf
    exact j_iret X hr hlk rfl dX4_flyAt_32 hQ
  · replace hf := (if_neg c_7).symm.trans hf
    refine j_aload_n X dX4_flyAt_10 rfl rfl ?_
    refine j_iload_n X dX4_flyAt_11 rfl rfl ?_
    obtain ⟨q3, g_q3, hf⟩ := ob_t hf
    refine j_callV X [0, 1, 2, 3, 4, 5, 6, 7, 8, 9, 10, 11, 12, 13, 14, 15, 16, 17, 18, 19, 20, 21] 0 (c_X4_stands E h g g_q3) (cut_wR_wR_c ..) rfl rfl (ws' := (wR E h g q3.1)) (cut_wR_wR_w ..) (wR_0 ..) rfl k_466 k_455 k_456 k_78 k_457 (⟨rfl, rfl⟩) hdV_X4_stands ⟨Nat.le_of_ble_eq_true rfl, Nat.le_of_ble_eq_true rfl⟩ rfl (Nat.le_of_ble_eq_true rfl) rfl dX4_flyAt_12 ?_
    refine j_if_eq (tgt := 28) X dX4_flyAt_15 (by decide) (fun c_15 => ?_) (fun c_15 => ?_)
    · replace hf := (if_pos c_15).symm.trans hf
      refine j_aload_n X dX4_flyAt_28 rfl rfl ?_
      obtain ⟨q4, g_q4, hf⟩ := ob_t hf
      refine j_callV X [0, 1, 2, 3, 4, 5, 6, 7, 8, 9, 10, 11, 12, 13, 14, 15, 16, 17, 18, 19, 20, 21] 0 (c_X4_settle E h g g_q4) (cut_wR_wR_c ..) rfl rfl (ws' := (wR E h g q4.1)) (cut_wR_wR_w ..) (wR_0 ..) rfl k_598 k_459 k_460 k_78 k_461 (⟨rfl, rfl⟩) hdV_X4_settle ⟨Nat.le_of_ble_eq_true rfl, Nat.le_of_ble_eq_true rfl⟩ rfl (Nat.le_of_ble_eq_true rfl) rfl dX4_flyAt_29 ?_
      obtain rfl := Option.some.inj hf
      exact j_iret X hr hlk rfl dX4_flyAt_32 hQ
    · replace hf := (if_neg c_15).symm.trans hf
      refine j_aload_n X dX4_flyAt_18 rfl rfl ?_
      refine j_iload_n X dX4_flyAt_19 rfl rfl ?_
      refine j_aload_n X dX4_flyAt_20 rfl rfl ?_
      refine j_iload_n X dX4_flyAt_21 rfl rfl ?_
      obtain ⟨q5, g_q5, hf⟩ := ob_t hf
      refine j_callV X [0, 1, 2, 3, 4, 5, 6, 7, 8, 9, 10, 11, 12, 13, 14, 15, 16, 17, 18, 19, 20, 21] 0 (c_X4_bite E h g g_q5) (cut_wR_wR_c ..) rfl rfl (ws' := (wR E h g q5.1)) (cut_wR_wR_w ..) (wR_0 ..) rfl k_608 k_411 k_412 k_78 k_413 (⟨rfl, rfl⟩) hdV_X4_bite ⟨Nat.le_of_ble_eq_true rfl, Nat.le_of_ble_eq_true rfl⟩ rfl (Nat.le_of_ble_eq_true rfl) rfl dX4_flyAt_22 ?_
      obtain ⟨q6, g_q6, hf⟩ := ob_t hf
      refine j_callV X [0, 1, 2, 3, 4, 5, 6, 7, 8, 9, 10, 11, 12, 13, 14, 15, 16, 17, 18, 19, 20, 21] 0 (c_X4_lessen E h g g_q6) (cut_wR_wR_c ..) rfl rfl (ws' := (wR E h g q6)) (cut_wR_wR_w ..) (wR_0 ..) rfl k_476 k_478 k_3 k_78 k_479 (⟨rfl, rfl⟩) hdV_X4_lessen ⟨Nat.le_of_ble_eq_true rfl, Nat.le_of_ble_eq_true rfl⟩ rfl (Nat.le_of_ble_eq_true rfl) rfl dX4_flyAt_25 ?_
      refine j_aload_n X dX4_flyAt_28 rfl rfl ?_
      obtain ⟨q7, g_q7, hf⟩ := ob_t hf
      refine j_callV X [0, 1, 2, 3, 4, 5, 6, 7, 8, 9, 10, 11, 12, 13, 14, 15, 16, 17, 18, 19, 20, 21] 0 (c_X4_settle E h g g_q7) (cut_wR_wR_c ..) rfl rfl (ws' := (wR E h g q7.1)) (cut_wR_wR_w ..) (wR_0 ..) rfl k_598 k_459 k_460 k_78 k_461 (⟨rfl, rfl⟩) hdV_X4_settle ⟨Nat.le_of_ble_eq_true rfl, Nat.le_of_ble_eq_true rfl⟩ rfl (Nat.le_of_ble_eq_true rfl) rfl dX4_flyAt_29 ?_
      obtain rfl := Option.some.inj hf
      exact j_iret X hr hlk rfl dX4_flyAt_32 hQ
def f_X4_pokeOne (μ : Mem) (x1 : Int32) : Option (Mem × Int32) := (if inb x1 9 = true then bd (upA μ 4 (upd (μ 4) x1.toNatClampNeg (0 : Int32))) fun μ2 => ((f_X4_settle μ2).bind fun q3 => (some (q3.1, q3.2))) else none)
set_option maxHeartbeats 4000000 in
set_option maxRecDepth 20000 in
theorem c_X4_pokeOne (E : Ev) (h : Nat → Nat) (g : Nat → Option Nat) {μ : Mem} {x1 : Int32} {r : (Mem × Int32)} (hf : f_X4_pokeOne μ x1 = some r) : Ct E yX4_pokeOne cX4_pokeOne 2 (some .int) (rmOf 4 93) (wR E h g μ) (wR E h g r.1) [.ref (h 0), .int x1] (some (.int r.2)) := by
  refine ct_start RX4 0 (by decide) rfl (Nat.le_of_ble_eq_true rfl) ?_
  intro p l e s m args below meth c A Q X hr hlk hQ
  rw [f_X4_pokeOne] at hf
  refine j_aload_n X dX4_pokeOne_0 rfl rfl ?_
  refine j_get (C := RX4) (T := TX4) (N := 10) X iX4 0 (wR_0 ..) rfl 3 (by decide) k_198 rfl rfl dX4_pokeOne_1 ?_
  refine j_iload_n X dX4_pokeOne_4 rfl rfl ?_
  refine j_iconst (v := (0 : Int32)) X dX4_pokeOne_5 (by decide) ?_
  obtain ⟨c1, hf⟩ := oi_in hf
  obtain ⟨μ2, e_μ2, hf⟩ := bd_e hf
  refine j_iast X 4 (wR_4 ..) c1 dX4_pokeOne_6 (ws' := (wR E h g μ2)) (by rw [e_μ2]; exact wR_s4 ..) ?_
  refine j_aload_n X dX4_pokeOne_7 rfl rfl ?_
  obtain ⟨q3, g_q3, hf⟩ := ob_t hf
  refine j_callV X [0, 1, 2, 3, 4, 5, 6, 7, 8, 9, 10, 11, 12, 13, 14, 15, 16, 17, 18, 19, 20, 21] 0 (c_X4_settle E h g g_q3) (cut_wR_wR_c ..) rfl rfl (ws' := (wR E h g q3.1)) (cut_wR_wR_w ..) (wR_0 ..) rfl k_598 k_459 k_460 k_78 k_461 (⟨rfl, rfl⟩) hdV_X4_settle ⟨Nat.le_of_ble_eq_true rfl, Nat.le_of_ble_eq_true rfl⟩ rfl (Nat.le_of_ble_eq_true rfl) rfl dX4_pokeOne_8 ?_
  obtain rfl := Option.some.inj hf
  exact j_iret X hr hlk rfl dX4_pokeOne_11 hQ
