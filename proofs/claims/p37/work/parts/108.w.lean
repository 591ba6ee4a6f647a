def f_X4_settle_L7 : Nat → Mem → Int32 → Int32 → Option (Mem × Int32)
  | 0, _, _, _ => none
  | n + 1, μ, x1, x2 => (if x2 < 0 then some (μ, x1) else (if (9 : Int32) ≤ x1 then some (μ, x1) else (f_X4_stir μ x2).bind fun q2 => ((f_X4_leastAtZero q2).bind fun q3 => ((f_X4_settle_L7 n) q3.1 (x1 + (1 : Int32)) q3.2))))
def f_X4_settle (μ : Mem) : Option (Mem × Int32) := (f_X4_leastAtZero μ).bind fun q1 => (f_X4_settle_L7 fuel0 q1.1 (0 : Int32) q1.2)
set_option maxHeartbeats 4000000 in
set_option maxRecDepth 20000 in
theorem c_X4_settle (E : Ev) (h : Nat → Nat) (g : Nat → Option Nat) {μ : Mem} {r : (Mem × Int32)} (hf : f_X4_settle μ = some r) : Ct E yX4_settle cX4_settle 3 (some .int) (rmOf 3 71) (wR E h g μ) (wR E h g r.1) [.ref (h 0)] (some (.int r.2)) := by
  refine ct_start RX4 2 (by decide) rfl (Nat.le_of_ble_eq_true rfl) ?_
  intro p l e s m args below meth c A Q X hr hlk hQ
  have lab7 : ∀ (n : Nat) (μ : Mem) (x1 : Int32) (x2 : Int32), f_X4_settle_L7 n μ x1 x2 = some r → J p l e (rmOf 3 71) s m args below meth c E A 3 Q (wR E h g μ) [some (.ref (h 0)), some (.int x1), some (.int x2)] 7 [] := by
    intro n
    induction n with
    | zero => intro μ x1 x2 hf; cases (show none = some r from hf)
    | succ n ih =>
      intro μ x1 x2 hf
      rw [f_X4_settle_L7] at hf
      refine j_iload_n X dX4_settle_7 rfl rfl ?_
      refine j_if_lt (tgt := 33) X dX4_settle_8 (by decide) (fun c_8 => ?_) (fun c_8 => ?_)
      · replace hf := (if_pos c_8).symm.trans hf
        refine j_iload_n X dX4_settle_33 rfl rfl ?_
        obtain rfl := Option.some.inj hf
        exact j_iret X hr hlk rfl dX4_settle_34 hQ
      · replace hf := (if_neg c_8).symm.trans hf
        refine j_iload_n X dX4_settle_11 rfl rfl ?_
        refine j_bipush (v := (9 : Int32)) X dX4_settle_12 (by decide) ?_
        refine j_icmp_ge (tgt := 33) X dX4_settle_14 (by decide) (fun c_14 => ?_) (fun c_14 => ?_)
        · replace hf := (if_pos c_14).symm.trans hf
          refine j_iload_n X dX4_settle_33 rfl rfl ?_
          obtain rfl := Option.some.inj hf
          exact j_iret X hr hlk rfl dX4_settle_34 hQ
        · replace hf := (if_neg c_14).symm.trans hf
          refine j_aload_n X dX4_settle_17 rfl rfl ?_
          refine j_iload_n X dX4_settle_18 rfl rfl ?_
          obtain ⟨q2, g_q2, hf⟩ := ob_t hf
          refine j_callV X [0, 1, 2, 3, 4, 5, 6, 7, 8, 9, 10, 11, 12, 13, 14, 15, 16, 17, 18, 19, 20, 21] 0 (c_X4_stir E h g g_q2) (cut_wR_wR_c ..) rfl rfl (ws' := (wR E h g q2)) (cut_wR_wR_w ..) (wR_0 ..) rfl k_467 k_469 k_2 k_78 k_470 (⟨rfl, rfl⟩) hdV_X4_stir ⟨Nat.le_of_ble_eq_true rfl, Nat.le_of_ble_eq_true rfl⟩ rfl (Nat.le_of_ble_eq_true rfl) rfl dX4_settle_19 ?_
          refine j_iinc1 (k := (1 : Int32)) X dX4_settle_22 (by decide) (by decide) rfl ?_
          refine j_aload_n X dX4_settle_25 rfl rfl ?_
          obtain ⟨q3, g_q3, hf⟩ := ob_t hf
          refine j_callV X [0, 1, 2, 3, 4, 5, 6, 7, 8, 9, 10, 11, 12, 13, 14, 15, 16, 17, 18, 19, 20, 21] 0 (c_X4_leastAtZero E h g g_q3) (cut_wR_wR_c ..) rfl rfl (ws' := (wR E h g q3.1)) (cut_wR_wR_w ..) (wR_0 ..) rfl k_462 k_464 k_1 k_78 k_465 (⟨rfl, rfl⟩) hdV_X4_leastAtZero ⟨Nat.le_of_ble_eq_true rfl, Nat.le_of_ble_eq_true rfl⟩ rfl (Nat.le_of_ble_eq_true rfl) rfl dX4_settle_26 ?_
          refine j_istore_n2 X dX4_settle_29 rfl (by decide) rfl ?_
          refine j_goto (tgt := 7) X dX4_settle_30 (by decide) ?_
          refine j_keep [true, true, true] rfl ?_
          exact ih _ _ _ hf
  rw [f_X4_settle] at hf
  refine j_iconst (v := (0 : Int32)) X dX4_settle_0 (by decide) ?_
  refine j_istore_n1 X dX4_settle_1 rfl (by decide) rfl ?_
  refine j_aload_n X dX4_settle_2 rfl rfl ?_
  obtain ⟨q1, g_q1, hf⟩ := ob_t hf
  refine j_callV X [0, 1, 2, 3, 4, 5, 6, 7, 8, 9, 10, 11, 12, 13, 14, 15, 16, 17, 18, 19, 20, 21] 0 (c_X4_leastAtZero E h g g_q1) (cut_wR_wR_c ..) rfl rfl (ws' := (wR E h g q1.1)) (cut_wR_wR_w ..) (wR_0 ..) rfl k_462 k_464 k_1 k_78 k_465 (⟨rfl, rfl⟩) hdV_X4_leastAtZero ⟨Nat.le_of_ble_eq_true rfl, Nat.le_of_ble_eq_true rfl⟩ rfl (Nat.le_of_ble_eq_true rfl) rfl dX4_settle_3 ?_
  refine j_istore_n2 X dX4_settle_6 rfl (by decide) rfl ?_
  refine j_keep [true, true, true] rfl ?_
  exact lab7 _ _ _ _ hf
def f_X7_spending_k0 (μ : Mem) (x2 : Int32) : Option (Mem × Int32) := some (μ, ((1 : Int32) + (μ 0 5)))
set_option maxHeartbeats 4000000 in
set_option maxRecDepth 20000 in
theorem c_X7_spending_k0 (E : Ev) (h : Nat → Nat) (g : Nat → Option Nat) {μ : Mem} {x2 : Int32} {r : (Mem × Int32)} (hf : f_X7_spending_k0 μ x2 = some r) : Ct E yX7_spending cX7_spending 3 (some .int) (rmOf 0 0) (wR E h g μ) (wR E h g r.1) [.ref (h 15), .ref (h 0), .int x2] (some (.int r.2)) := by
  refine ct_start RX7 0 (by decide) rfl (Nat.le_of_ble_eq_true rfl) ?_
  intro p l e s m args below meth c A Q X hr hlk hQ
  rw [f_X7_spending_k0] at hf
  refine j_iconst (v := (1 : Int32)) X dX7_spending_0 (by decide) ?_
  refine j_aload_n X dX7_spending_1 rfl rfl ?_
  refine j_get (C := RX4) (T := TX4) (N := 10) X iX4 0 (wR_0 ..) rfl 5 (by decide) k_204 rfl rfl dX7_spending_2 ?_
  refine j_iadd X dX7_spending_5 ?_
  obtain rfl := Option.some.inj hf
  exact j_iret X hr hlk rfl dX7_spending_6 hQ
def f_X0_spending_k1 (μ : Mem) (x2 : Int32) : Option (Mem × Int32) := some (μ, (1 : Int32))
set_option maxHeartbeats 4000000 in
set_option maxRecDepth 20000 in
theorem c_X0_spending_k1 (E : Ev) (h : Nat → Nat) (g : Nat → Option Nat) {μ : Mem} {x2 : Int32} {r : (Mem × Int32)} (hf : f_X0_spending_k1 μ x2 = some r) : Ct E yX0_spending cX0_spending 3 (some .int) (rmOf 0 0) (wR E h g μ) (wR E h g r.1) [.ref (h 16), .ref (h 0), .int x2] (some (.int r.2)) := by
  refine ct_start RX0 0 (by decide) rfl (Nat.le_of_ble_eq_true rfl) ?_
  intro p l e s m args below meth c A Q X hr hlk hQ
  rw [f_X0_spending_k1] at hf
  refine j_iconst (v := (1 : Int32)) X dX0_spending_0 (by decide) ?_
  obtain rfl := Option.some.inj hf
  exact j_iret X hr hlk rfl dX0_spending_1 hQ
def f_X7_spending_k2 (μ : Mem) (x2 : Int32) : Option (Mem × Int32) := some (μ, ((1 : Int32) + (μ 0 5)))
set_option maxHeartbeats 4000000 in
set_option maxRecDepth 20000 in
theorem c_X7_spending_k2 (E : Ev) (h : Nat → Nat) (g : Nat → Option Nat) {μ : Mem} {x2 : Int32} {r : (Mem × Int32)} (hf : f_X7_spending_k2 μ x2 = some r) : Ct E yX7_spending cX7_spending 3 (some .int) (rmOf 0 0) (wR E h g μ) (wR E h g r.1) [.ref (h 17), .ref (h 0), .int x2] (some (.int r.2)) := by
  refine ct_start RX7 0 (by decide) rfl (Nat.le_of_ble_eq_true rfl) ?_
  intro p l e s m args below meth c A Q X hr hlk hQ
  rw [f_X7_spending_k2] at hf
  refine j_iconst (v := (1 : Int32)) X dX7_spending_0 (by decide) ?_
  refine j_aload_n X dX7_spending_1 rfl rfl ?_
  refine j_get (C := RX4) (T := TX4) (N := 10) X iX4 0 (wR_0 ..) rfl 5 (by decide) k_204 rfl rfl dX7_spending_2 ?_
  refine j_iadd X dX7_spending_5 ?_
  obtain rfl := Option.some.inj hf
  exact j_iret X hr hlk rfl dX7_spending_6 hQ
def f_X2_spending_k2 (μ : Mem) (x2 : Int32) : Option (Mem × Int32) := (f_X7_spending_k2 μ x2).bind fun q1 => ((if inb x2 9 = true then some (q1.1, (q1.2 - ((q1.1 2 x2.toNatClampNeg) / (2 : Int32)))) else none))
set_option maxHeartbeats 4000000 in
set_option maxRecDepth 20000 in
theorem c_X2_spending_k2 (E : Ev) (h : Nat → Nat) (g : Nat → Option Nat) {μ : Mem} {x2 : Int32} {r : (Mem × Int32)} (hf : f_X2_spending_k2 μ x2 = some r) : Ct E yX2_spending cX2_spending 3 (some .int) (rmOf 1 22) (wR E h g μ) (wR E h g r.1) [.ref (h 17), .ref (h 0), .int x2] (some (.int r.2)) := by
  refine ct_start RX2 0 (by decide) rfl (Nat.le_of_ble_eq_true rfl) ?_
  intro p l e s m args below meth c A Q X hr hlk hQ
  rw [f_X2_spending_k2] at hf
  refine j_aload_n X dX2_spending_0 rfl rfl ?_
  refine j_aload_n X dX2_spending_1 rfl rfl ?_
  refine j_iload_n X dX2_spending_2 rfl rfl ?_
  obtain ⟨q1, g_q1, hf⟩ := ob_t hf
  refine j_callSU X [0, 1, 2, 3, 4, 5, 6, 7, 8, 9, 10, 11, 12, 13, 14, 15, 16, 17, 18, 19, 20, 21] 17 (c_X7_spending_k2 E h g g_q1) (cut_wR_wR_c ..) rfl rfl (ws' := (wR E h g q1.1)) (cut_wR_wR_w ..) (wR_17 ..) rfl k_378 k_371 k_113 k_369 k_69 k_400 (⟨rfl, rfl⟩) hdSU_X7_spending ⟨Nat.le_of_ble_eq_true rfl, Nat.le_of_ble_eq_true rfl⟩ rfl (Nat.le_of_ble_eq_true rfl) rfl dX2_spending_3 ?_
  refine j_aload_n X dX2_spending_6 rfl rfl ?_
  refine j_get (C := RX4) (T := TX4) (N := 10) X iX4 0 (wR_0 ..) rfl 1 (by decide) k_192 rfl rfl dX2_spending_7 ?_
  refine j_iload_n X dX2_spending_10 rfl rfl ?_
  obtain ⟨c2, hf⟩ := oi_in hf
  refine j_iald X 2 (wR_2 ..) c2 dX2_spending_11 ?_
  refine j_iconst (v := (2 : Int32)) X dX2_spending_12 (by decide) ?_
  refine j_idiv X dX2_spending_13 (by decide) ?_
  refine j_isub X dX2_spending_14 ?_
  obtain rfl := Option.some.inj hf
  exact j_iret X hr hlk rfl dX2_spending_15 hQ
def f_X7_spending_k3 (μ : Mem) (x2 : Int32) : Option (Mem × Int32) := some (μ, ((1 : Int32) + (μ 0 5)))
set_option maxHeartbeats 4000000 in
set_option maxRecDepth 20000 in
theorem c_X7_spending_k3 (E : Ev) (h : Nat → Nat) (g : Nat → Option Nat) {μ : Mem} {x2 : Int32} {r : (Mem × Int32)} (hf : f_X7_spending_k3 μ x2 = some r) : Ct E yX7_spending cX7_spending 3 (some .int) (rmOf 0 0) (wR E h g μ) (wR E h g r.1) [.ref (h 18), .ref (h 0), .int x2] (some (.int r.2)) := by
  refine ct_start RX7 0 (by decide) rfl (Nat.le_of_ble_eq_true rfl) ?_
  intro p l e s m args below meth c A Q X hr hlk hQ
  rw [f_X7_spending_k3] at hf
  refine j_iconst (v := (1 : Int32)) X dX7_spending_0 (by decide) ?_
  refine j_aload_n X dX7_spending_1 rfl rfl ?_
  refine j_get (C := RX4) (T := TX4) (N := 10) X iX4 0 (wR_0 ..) rfl 5 (by decide) k_204 rfl rfl dX7_spending_2 ?_
  refine j_iadd X dX7_spending_5 ?_
  obtain rfl := Option.some.inj hf
  exact j_iret X hr hlk rfl dX7_spending_6 hQ
def f_X0_spending_k4 (μ : Mem) (x2 : Int32) : Option (Mem × Int32) := some (μ, (1 : Int32))
set_option maxHeartbeats 4000000 in
set_option maxRecDepth 20000 in
theorem c_X0_spending_k4 (E : Ev) (h : Nat → Nat) (g : Nat → Option Nat) {μ : Mem} {x2 : Int32} {r : (Mem × Int32)} (hf : f_X0_spending_k4 μ x2 = some r) : Ct E yX0_spending cX0_spending 3 (some .int) (rmOf 0 0) (wR E h g μ) (wR E h g r.1) [.ref (h 19), .ref (h 0), .int x2] (some (.int r.2)) := by
  refine ct_start RX0 0 (by decide) rfl (Nat.le_of_ble_eq_true rfl) ?_
  intro p l e s m args below meth c A Q X hr hlk hQ
  rw [f_X0_spending_k4] at hf
  refine j_iconst (v := (1 : Int32)) X dX0_spending_0 (by decide) ?_
  obtain rfl := Option.some.inj hf
  exact j_iret X hr hlk rfl dX0_spending_1 hQ
def f_X3_spending_k4 (μ : Mem) (x2 : Int32) : Option (Mem × Int32) := (f_X0_spending_k4 μ x2).bind fun q1 => ((if inb x2 9 = true then some (q1.1, (q1.2 + ((q1.1 2 x2.toNatClampNeg) - (q1.1 2 x2.toNatClampNeg) / (3 : Int32) * (3 : Int32)))) else none))
set_option maxHeartbeats 4000000 in
set_option maxRecDepth 20000 in
theorem c_X3_spending_k4 (E : Ev) (h : Nat → Nat) (g : Nat → Option Nat) {μ : Mem} {x2 : Int32} {r : (Mem × Int32)} (hf : f_X3_spending_k4 μ x2 = some r) : Ct E yX3_spending cX3_spending 3 (some .int) (rmOf 1 22) (wR E h g μ) (wR E h g r.1) [.ref (h 19), .ref (h 0), .int x2] (some (.int r.2)) := by
  refine ct_start RX3 0 (by decide) rfl (Nat.le_of_ble_eq_true rfl) ?_
  intro p l e s m args below meth c A Q X hr hlk hQ
  rw [f_X3_spending_k4] at hf
  refine j_aload_n X dX3_spending_0 rfl rfl ?_
  refine j_aload_n X dX3_spending_1 rfl rfl ?_
  refine j_iload_n X dX3_spending_2 rfl rfl ?_
  obtain ⟨q1, g_q1, hf⟩ := ob_t hf
  refine j_callSU X [0, 1, 2, 3, 4, 5, 6, 7, 8, 9, 10, 11, 12, 13, 14, 15, 16, 17, 18, 19, 20, 21] 19 (c_X0_spending_k4 E h g g_q1) (cut_wR_wR_c ..) rfl rfl (ws' := (wR E h g q1.1)) (cut_wR_wR_w ..) (wR_19 ..) rfl k_382 k_1338 k_127 k_373 k_70 k_374 (⟨rfl, rfl⟩) hdSU_X0_spending ⟨Nat.le_of_ble_eq_true rfl, Nat.le_of_ble_eq_true rfl⟩ rfl (Nat.le_of_ble_eq_true rfl) rfl dX3_spending_3 ?_
  refine j_aload_n X dX3_spending_6 rfl rfl ?_
  refine j_get (C := RX4) (T := TX4) (N := 10) X iX4 0 (wR_0 ..) rfl 1 (by decide) k_193 rfl rfl dX3_spending_7 ?_
  refine j_iload_n X dX3_spending_10 rfl rfl ?_
  obtain ⟨c2, hf⟩ := oi_in hf
  refine j_iald X 2 (wR_2 ..) c2 dX3_spending_11 ?_
  refine j_iconst (v := (3 : Int32)) X dX3_spending_12 (by decide) ?_
  refine j_irem X dX3_spending_13 (by decide) ?_
  refine j_iadd X dX3_spending_14 ?_
  obtain rfl := Option.some.inj hf
  exact j_iret X hr hlk rfl dX3_spending_15 hQ
def f_X7_spending_k5 (μ : Mem) (x2 : Int32) : Option (Mem × Int32) := some (μ, ((1 : Int32) + (μ 0 5)))
set_option maxHeartbeats 4000000 in
set_option maxRecDepth 20000 in
theorem c_X7_spending_k5 (E : Ev) (h : Nat → Nat) (g : Nat → Option Nat) {μ : Mem} {x2 : Int32} {r : (Mem × Int32)} (hf : f_X7_spending_k5 μ x2 = some r) : Ct E yX7_spending cX7_spending 3 (some .int) (rmOf 0 0) (wR E h g μ) (wR E h g r.1) [.ref (h 20), .ref (h 0), .int x2] (some (.int r.2)) := by
  refine ct_start RX7 0 (by decide) rfl (Nat.le_of_ble_eq_true rfl) ?_
  intro p l e s m args below meth c A Q X hr hlk hQ
  rw [f_X7_spending_k5] at hf
  refine j_iconst (v := (1 : Int32)) X dX7_spending_0 (by decide) ?_
  refine j_aload_n X dX7_spending_1 rfl rfl ?_
  refine j_get (C := RX4) (T := TX4) (N := 10) X iX4 0 (wR_0 ..) rfl 5 (by decide) k_204 rfl rfl dX7_spending_2 ?_
  refine j_iadd X dX7_spending_5 ?_
  obtain rfl := Option.some.inj hf
  exact j_iret X hr hlk rfl dX7_spending_6 hQ
def f_X2_spending_k5 (μ : Mem) (x2 : Int32) : Option (Mem × Int32) := (f_X7_spending_k5 μ x2).bind fun q1 => ((if inb x2 9 = true then some (q1.1, (q1.2 - ((q1.1 2 x2.toNatClampNeg) / (2 : Int32)))) else none))
set_option maxHeartbeats 4000000 in
set_option maxRecDepth 20000 in
theorem c_X2_spending_k5 (E : Ev) (h : Nat → Nat) (g : Nat → Option Nat) {μ : Mem} {x2 : Int32} {r : (Mem × Int32)} (hf : f_X2_spending_k5 μ x2 = some r) : Ct E yX2_spending cX2_spending 3 (some .int) (rmOf 1 22) (wR E h g μ) (wR E h g r.1) [.ref (h 20), .ref (h 0), .int x2] (some (.int r.2)) := by
  refine ct_start RX2 0 (by decide) rfl (Nat.le_of_ble_eq_true rfl) ?_
  intro p l e s m args below meth c A Q X hr hlk hQ
  rw [f_X2_spending_k5] at hf
  refine j_aload_n X dX2_spending_0 rfl rfl ?_
  refine j_aload_n X dX2_spending_1 rfl rfl ?_
  refine j_iload_n X dX2_spending_2 rfl rfl ?_
  obtain ⟨q1, g_q1, hf⟩ := ob_t hf
  refine j_callSU X [0, 1, 2, 3, 4, 5, 6, 7, 8, 9, 10, 11, 12, 13, 14, 15, 16, 17, 18, 19, 20, 21] 20 (c_X7_spending_k5 E h g g_q1) (cut_wR_wR_c ..) rfl rfl (ws' := (wR E h g q1.1)) (cut_wR_wR_w ..) (wR_20 ..) rfl k_378 k_371 k_113 k_369 k_69 k_400 (⟨rfl, rfl⟩) hdSU_X7_spending ⟨Nat.le_of_ble_eq_true rfl, Nat.le_of_ble_eq_true rfl⟩ rfl (Nat.le_of_ble_eq_true rfl) rfl dX2_spending_3 ?_
  refine j_aload_n X dX2_spending_6 rfl rfl ?_
  refine j_get (C := RX4) (T := TX4) (N := 10) X iX4 0 (wR_0 ..) rfl 1 (by decide) k_192 rfl rfl dX2_spending_7 ?_
  refine j_iload_n X dX2_spending_10 rfl rfl ?_
  obtain ⟨c2, hf⟩ := oi_in hf
  refine j_iald X 2 (wR_2 ..) c2 dX2_spending_11 ?_
  refine j_iconst (v := (2 : Int32)) X dX2_spending_12 (by decide) ?_
  refine j_idiv X dX2_spending_13 (by decide) ?_
  refine j_isub X dX2_spending_14 ?_
  obtain rfl := Option.some.inj hf
  exact j_iret X hr hlk rfl dX2_spending_15 hQ
theorem cut_wR_wL_6_7_8_c (E : Ev) (h : Nat → Nat) (g : Nat → Option Nat) (μ : Mem) : ([6, 7, 8, 9] : List Nat).map (fun i => (wR E h g μ)[i]?) = (wL E (fun j => h (List.getD [6, 7, 8, 9] j 0)) (fun j => g (List.getD [0] j 0)) (sub [6, 7, 8, 9] μ)).map some := rfl
theorem cut_wR_wL_6_7_8_w (E : Ev) (h : Nat → Nat) (g : Nat → Option Nat) (μ : Mem) (ν : Mem) : putW (wR E h g μ) [6, 7, 8, 9] (wL E (fun j => h (List.getD [6, 7, 8, 9] j 0)) (fun j => g (List.getD [0] j 0)) ν) = wR E h g (put [6, 7, 8, 9] μ ν) := putW_A (by decide +kernel) rfl rfl
def f_X7_spending_k6 (μ : Mem) (x2 : Int32) : Option (Mem × Int32) := some (μ, ((1 : Int32) + (μ 0 5)))
set_option maxHeartbeats 4000000 in
set_option maxRecDepth 20000 in
theorem c_X7_spending_k6 (E : Ev) (h : Nat → Nat) (g : Nat → Option Nat) {μ : Mem} {x2 : Int32} {r : (Mem × Int32)} (hf : f_X7_spending_k6 μ x2 = some r) : Ct E yX7_spending cX7_spending 3 (some .int) (rmOf 0 0) (wR E h g μ) (wR E h g r.1) [.ref (h 21), .ref (h 0), .int x2] (some (.int r.2)) := by
  refine ct_start RX7 0 (by decide) rfl (Nat.le_of_ble_eq_true rfl) ?_
  intro p l e s m args below meth c A Q X hr hlk hQ
  rw [f_X7_spending_k6] at hf
  refine j_iconst (v := (1 : Int32)) X dX7_spending_0 (by decide) ?_
  refine j_aload_n X dX7_spending_1 rfl rfl ?_
  refine j_get (C := RX4) (T := TX4) (N := 10) X iX4 0 (wR_0 ..) rfl 5 (by decide) k_204 rfl rfl dX7_spending_2 ?_
  refine j_iadd X dX7_spending_5 ?_
  obtain rfl := Option.some.inj hf
  exact j_iret X hr hlk rfl dX7_spending_6 hQ
def f_X9_spending_k6 (μ : Mem) (x2 : Int32) : Option (Mem × Int32) := (f_X1_isMissing (sub [6, 7, 8, 9] μ)).bind fun q1 => (bd (put [6, 7, 8, 9] μ q1.1) fun μ2 => ((if q1.2 = 0 then (if inb x2 9 = true then (if inb x2 9 = true then (f_X1_gives (sub [6, 7, 8, 9] μ2) (μ2 0 5) (μ2 4 x2.toNatClampNeg) (μ2 2 x2.toNatClampNeg)).bind fun q5 => (bd (put [6, 7, 8, 9] μ2 q5.1) fun μ6 => (some (μ6, q5.2))) else none) else none) else (f_X7_spending_k6 μ2 x2).bind fun q7 => (some (q7.1, q7.2)))))
set_option maxHeartbeats 4000000 in
set_option maxRecDepth 20000 in
theorem c_X9_spending_k6 (E : Ev) (h : Nat → Nat) (g : Nat → Option Nat) {μ : Mem} {x2 : Int32} {r : (Mem × Int32)} (hf : f_X9_spending_k6 μ x2 = some r) : Ct E yX9_spending cX9_spending 4 (some .int) (rmOf 2 48) (wR E h g μ) (wR E h g r.1) [.ref (h 21), .ref (h 0), .int x2] (some (.int r.2)) := by
  refine ct_start RX9 1 (by decide) rfl (Nat.le_of_ble_eq_true rfl) ?_
  intro p l e s m args below meth c A Q X hr hlk hQ
  rw [f_X9_spending_k6] at hf
  refine j_aload_n X dX9_spending_0 rfl rfl ?_
  refine j_get (C := RX4) (T := TX4) (N := 10) X iX4 0 (wR_0 ..) rfl 7 (by decide) k_210 rfl rfl dX9_spending_1 ?_
  refine j_astore_n3 X dX9_spending_4 rfl (by decide) rfl ?_
  refine j_aload_n X dX9_spending_5 rfl rfl ?_
  obtain ⟨q1, g_q1, hf⟩ := ob_t hf
  obtain ⟨μ2, e_μ2, hf⟩ := bd_e hf
  refine j_callV X [6, 7, 8, 9] 0 (c_X1_isMissing E (fun j => h (List.getD [6, 7, 8, 9] j 0)) (fun j => g (List.getD [0] j 0)) g_q1) (cut_wR_wL_6_7_8_c ..) rfl rfl (ws' := (wR E h g μ2)) (by rw [e_μ2]; exact cut_wR_wL_6_7_8_w ..) (wL_0 ..) rfl k_387 k_388 k_389 k_77 k_390 (⟨rfl, rfl⟩) hdV_X1_isMissing ⟨Nat.le_of_ble_eq_true rfl, Nat.le_of_ble_eq_true rfl⟩ rfl (Nat.le_of_ble_eq_true rfl) rfl dX9_spending_6 ?_
  refine j_if_eq (tgt := 21) X dX9_spending_9 (by decide) (fun c_9 => ?_) (fun c_9 => ?_)
  · replace hf := (if_pos c_9).symm.trans hf
    refine j_aload_n X dX9_spending_21 rfl rfl ?_
    refine j_aload_n X dX9_spending_22 rfl rfl ?_
    refine j_get (C := RX4) (T := TX4) (N := 10) X iX4 0 (wR_0 ..) rfl 5 (by decide) k_205 rfl rfl dX9_spending_23 ?_
    refine j_aload_n X dX9_spending_26 rfl rfl ?_
    refine j_get (C := RX4) (T := TX4) (N := 10) X iX4 0 (wR_0 ..) rfl 3 (by decide) k_199 rfl rfl dX9_spending_27 ?_
    refine j_iload_n X dX9_spending_30 rfl rfl ?_
    obtain ⟨c3, hf⟩ := oi_in hf
    refine j_iald X 4 (wR_4 ..) c3 dX9_spending_31 ?_
    refine j_aload_n X dX9_spending_32 rfl rfl ?_
    refine j_get (C := RX4) (T := TX4) (N := 10) X iX4 0 (wR_0 ..) rfl 1 (by decide) k_194 rfl rfl dX9_spending_33 ?_
    refine j_iload_n X dX9_spending_36 rfl rfl ?_
    obtain ⟨c4, hf⟩ := oi_in hf
    refine j_iald X 2 (wR_2 ..) c4 dX9_spending_37 ?_
    obtain ⟨q5, g_q5, hf⟩ := ob_t hf
    obtain ⟨μ6, e_μ6, hf⟩ := bd_e hf
    refine j_callV X [6, 7, 8, 9] 0 (c_X1_gives E (fun j => h (List.getD [6, 7, 8, 9] j 0)) (fun j => g (List.getD [0] j 0)) g_q5) (cut_wR_wL_6_7_8_c ..) rfl rfl (ws' := (wR E h g μ6)) (by rw [e_μ6]; exact cut_wR_wL_6_7_8_w ..) (wL_0 ..) rfl k_392 k_393 k_394 k_77 k_395 (⟨rfl, rfl⟩) hdV_X1_gives ⟨Nat.le_of_ble_eq_true rfl, Nat.le_of_ble_eq_true rfl⟩ rfl (Nat.le_of_ble_eq_true rfl) rfl dX9_spending_38 ?_
    obtain rfl := Option.some.inj hf
    exact j_iret X hr hlk rfl dX9_spending_41 hQ
  · replace hf := (if_neg c_9).symm.trans hf
    refine j_aload_n X dX9_spending_12 rfl rfl ?_
    refine j_aload_n X dX9_spending_13 rfl rfl ?_
    refine j_iload_n X dX9_spending_14 rfl rfl ?_
    obtain ⟨q7, g_q7, hf⟩ := ob_t hf
    refine j_callSU X [0, 1, 2, 3, 4, 5, 6, 7, 8, 9, 10, 11, 12, 13, 14, 15, 16, 17, 18, 19, 20, 21] 21 (c_X7_spending_k6 E h g g_q7) (cut_wR_wR_c ..) rfl rfl (ws' := (wR E h g q7.1)) (cut_wR_wR_w ..) (wR_21 ..) rfl k_391 k_371 k_141 k_369 k_69 k_400 (⟨rfl, rfl⟩) hdSU_X7_spending ⟨Nat.le_of_ble_eq_true rfl, Nat.le_of_ble_eq_true rfl⟩ rfl (Nat.le_of_ble_eq_true rfl) rfl dX9_spending_15 ?_
    refine j_goto (tgt := 41) X dX9_spending_18 (by decide) ?_
    obtain rfl := Option.some.inj hf
    exact j_iret X hr hlk rfl dX9_spending_41 hQ
def f_X4_spends (μ : Mem) (x1 : Int32) : Option (Mem × Int32) := (f_X4_kindOf μ x1).bind fun q1 => ((if q1.2 = 15 then (f_X7_spending_k0 q1.1 x1).bind fun q2 => ((f_X4_held q2.2).bind fun q3 => (some (q2.1, q3))) else (if q1.2 = 16 then (f_X0_spending_k1 q1.1 x1).bind fun q4 => ((f_X4_held q4.2).bind fun q5 => (some (q4.1, q5))) else (if q1.2 = 17 then (f_X2_spending_k2 q1.1 x1).bind fun q6 => ((f_X4_held q6.2).bind fun q7 => (some (q6.1, q7))) else (if q1.2 = 18 then (f_X7_spending_k3 q1.1 x1).bind fun q8 => ((f_X4_held q8.2).bind fun q9 => (some (q8.1, q9))) else (if q1.2 = 19 then (f_X3_spending_k4 q1.1 x1).bind fun q10 => ((f_X4_held q10.2).bind fun q11 => (some (q10.1, q11))) else (if q1.2 = 20 then (f_X2_spending_k5 q1.1 x1).bind fun q12 => ((f_X4_held q12.2).bind fun q13 => (some (q12.1, q13))) else (if q1.2 = 21 then (f_X9_spending_k6 q1.1 x1).bind fun q14 => ((f_X4_held q14.2).bind fun q15 => (some (q14.1, q15))) else none))))))))
set_option maxHeartbeats 4000000 in
set_option maxRecDepth 20000 in
theorem c_X4_spends (E : Ev) (h : Nat → Nat) (g : Nat → Option Nat) {μ : Mem} {x1 : Int32} {r : (Mem × Int32)} (hf : f_X4_spends μ x1 = some r) : Ct E yX4_spends cX4_spends 2 (some .int) (rmOf 3 71) (wR E h g μ) (wR E h g r.1) [.ref (h 0), .int x1] (some (.int r.2)) := by
  refine ct_start RX4 0 (by decide) rfl (Nat.le_of_ble_eq_true rfl) ?_
  intro p l e s m args below meth c A Q X hr hlk hQ
  rw [f_X4_spends] at hf
  refine j_aload_n X dX4_spends_0 rfl rfl ?_
  refine j_iload_n X dX4_spends_1 rfl rfl ?_
  obtain ⟨q1, g_q1, hf⟩ := ob_t hf
  refine j_callV X [0, 1, 2, 3, 4, 5, 6, 7, 8, 9, 10, 11, 12, 13, 14, 15, 16, 17, 18, 19, 20, 21] 0 (c_X4_kindOf E h g g_q1) (cut_wR_wR_c ..) rfl rfl (ws' := (wR E h g q1.1)) (cut_wR_wR_w ..) (wR_0 ..) rfl k_364 k_365 k_366 k_78 k_367 (⟨rfl, rfl⟩) hdV_X4_kindOf ⟨Nat.le_of_ble_eq_true rfl, Nat.le_of_ble_eq_true rfl⟩ rfl (Nat.le_of_ble_eq_true rfl) rfl dX4_spends_2 ?_
  by_cases n_2_0 : q1.2 = 15
  · replace hf := (if_pos n_2_0).symm.trans hf
    refine j_stk (st' := [.ref (h 15)]) (by rw [n_2_0]; rfl) ?_
    refine j_aload_n X dX4_spends_5 rfl rfl ?_
    refine j_iload_n X dX4_spends_6 rfl rfl ?_
    obtain ⟨q2, g_q2, hf⟩ := ob_t hf
    refine j_callV X [0, 1, 2, 3, 4, 5, 6, 7, 8, 9, 10, 11, 12, 13, 14, 15, 16, 17, 18, 19, 20, 21] 15 (c_X7_spending_k0 E h g g_q2) (cut_wR_wR_c ..) rfl rfl (ws' := (wR E h g q2.1)) (cut_wR_wR_w ..) (wR_15 ..) rfl k_368 k_369 k_370 k_69 k_400 (⟨rfl, rfl⟩) hdV_X7_spending ⟨Nat.le_of_ble_eq_true rfl, Nat.le_of_ble_eq_true rfl⟩ rfl (Nat.le_of_ble_eq_true rfl) rfl dX4_spends_7 ?_
    obtain ⟨q3, g_q3, hf⟩ := ob_t hf
    refine j_callS X [] (c_X4_held E g_q3) rfl rfl rfl (ws' := (wR E h g q2.1)) rfl k_401 k_402 k_78 k_403 (⟨rfl, rfl⟩) hdS_X4_held ⟨Nat.le_of_ble_eq_true rfl, Nat.le_of_ble_eq_true rfl⟩ rfl (Nat.le_of_ble_eq_true rfl) rfl dX4_spends_10 ?_
    obtain rfl := Option.some.inj hf
    exact j_iret X hr hlk rfl dX4_spends_13 hQ
  · replace hf := (if_neg n_2_0).symm.trans hf
    by_cases n_2_1 : q1.2 = 16
    · replace hf := (if_pos n_2_1).symm.trans hf
      refine j_stk (st' := [.ref (h 16)]) (by rw [n_2_1]; rfl) ?_
      refine j_aload_n X dX4_spends_5 rfl rfl ?_
      refine j_iload_n X dX4_spends_6 rfl rfl ?_
      obtain ⟨q4, g_q4, hf⟩ := ob_t hf
      refine j_callO (n := 2) (x := ⟨RX7, "spending", "(LStandStill$Row;I)I"⟩) (owner := RX7) X [0, 1, 2, 3, 4, 5, 6, 7, 8, 9, 10, 11, 12, 13, 14, 15, 16, 17, 18, 19, 20, 21] 16 (c_X0_spending_k1 E h g g_q4) (cut_wR_wR_c ..) rfl rfl (ws' := (wR E h g q4.1)) (cut_wR_wR_w ..) (wR_16 ..) rfl k_368 k_371 k_369 k_372 k_373 k_70 k_374 (⟨rfl, rfl⟩) k_400 (by decide +kernel) ⟨Nat.le_of_ble_eq_true rfl, Nat.le_of_ble_eq_true rfl⟩ rfl (Nat.le_of_ble_eq_true rfl) rfl dX4_spends_7 ?_
      obtain ⟨q5, g_q5, hf⟩ := ob_t hf
      refine j_callS X [] (c_X4_held E g_q5) rfl rfl rfl (ws' := (wR E h g q4.1)) rfl k_401 k_402 k_78 k_403 (⟨rfl, rfl⟩) hdS_X4_held ⟨Nat.le_of_ble_eq_true rfl, Nat.le_of_ble_eq_true rfl⟩ rfl (Nat.le_of_ble_eq_true rfl) rfl dX4_spends_10 ?_
      obtain rfl := Option.some.inj hf
      exact j_iret X hr hlk rfl dX4_spends_13 hQ
    · replace hf := (if_neg n_2_1).symm.trans hf
      by_cases n_2_2 : q1.2 = 17
      · replace hf := (if_pos n_2_2).symm.trans hf
        refine j_stk (st' := [.ref (h 17)]) (by rw [n_2_2]; rfl) ?_
        refine j_aload_n X dX4_spends_5 rfl rfl ?_
        refine j_iload_n X dX4_spends_6 rfl rfl ?_
        obtain ⟨q6, g_q6, hf⟩ := ob_t hf
        refine j_callO (n := 2) (x := ⟨RX7, "spending", "(LStandStill$Row;I)I"⟩) (owner := RX7) X [0, 1, 2, 3, 4, 5, 6, 7, 8, 9, 10, 11, 12, 13, 14, 15, 16, 17, 18, 19, 20, 21] 17 (c_X2_spending_k2 E h g g_q6) (cut_wR_wR_c ..) rfl rfl (ws' := (wR E h g q6.1)) (cut_wR_wR_w ..) (wR_17 ..) rfl k_368 k_371 k_369 k_375 k_376 k_71 k_377 (⟨rfl, rfl⟩) k_400 (by decide +kernel) ⟨Nat.le_of_ble_eq_true rfl, Nat.le_of_ble_eq_true rfl⟩ rfl (Nat.le_of_ble_eq_true rfl) rfl dX4_spends_7 ?_
        obtain ⟨q7, g_q7, hf⟩ := ob_t hf
        refine j_callS X [] (c_X4_held E g_q7) rfl rfl rfl (ws' := (wR E h g q6.1)) rfl k_401 k_402 k_78 k_403 (⟨rfl, rfl⟩) hdS_X4_held ⟨Nat.le_of_ble_eq_true rfl, Nat.le_of_ble_eq_true rfl⟩ rfl (Nat.le_of_ble_eq_true rfl) rfl dX4_spends_10 ?_
        obtain rfl := Option.some.inj hf
        exact j_iret X hr hlk rfl dX4_spends_13 hQ
      · replace hf := (if_neg n_2_2).symm.trans hf
        by_cases n_2_3 : q1.2 = 18
        · replace hf := (if_pos n_2_3).symm.trans hf
          refine j_stk (st' := [.ref (h 18)]) (by rw [n_2_3]; rfl) ?_
          refine j_aload_n X dX4_spends_5 rfl rfl ?_
          refine j_iload_n X dX4_spends_6 rfl rfl ?_
          obtain ⟨q8, g_q8, hf⟩ := ob_t hf
          refine j_callU (n := 2) (x := ⟨RX7, "spending", "(LStandStill$Row;I)I"⟩) (owner := RX7) X [0, 1, 2, 3, 4, 5, 6, 7, 8, 9, 10, 11, 12, 13, 14, 15, 16, 17, 18, 19, 20, 21] 18 (c_X7_spending_k3 E h g g_q8) (cut_wR_wR_c ..) rfl rfl (ws' := (wR E h g q8.1)) (cut_wR_wR_w ..) (wR_18 ..) rfl k_368 k_371 k_383 k_369 k_69 k_400 (⟨rfl, rfl⟩) rfl (by decide +kernel) ⟨Nat.le_of_ble_eq_true rfl, Nat.le_of_ble_eq_true rfl⟩ rfl (Nat.le_of_ble_eq_true rfl) rfl dX4_spends_7 ?_
          obtain ⟨q9, g_q9, hf⟩ := ob_t hf
          refine j_callS X [] (c_X4_held E g_q9) rfl rfl rfl (ws' := (wR E h g q8.1)) rfl k_401 k_402 k_78 k_403 (⟨rfl, rfl⟩) hdS_X4_held ⟨Nat.le_of_ble_eq_true rfl, Nat.le_of_ble_eq_true rfl⟩ rfl (Nat.le_of_ble_eq_true rfl) rfl dX4_spends_10 ?_
          obtain rfl := Option.some.inj hf
          exact j_iret X hr hlk rfl dX4_spends_13 hQ
        · replace hf := (if_neg n_2_3).symm.trans hf
          by_cases n_2_4 : q1.2 = 19
          · replace hf := (if_pos n_2_4).symm.trans hf
            refine j_stk (st' := [.ref (h 19)]) (by rw [n_2_4]; rfl) ?_
            refine j_aload_n X dX4_spends_5 rfl rfl ?_
            refine j_iload_n X dX4_spends_6 rfl rfl ?_
            obtain ⟨q10, g_q10, hf⟩ := ob_t hf
            refine j_callO (n := 2) (x := ⟨RX7, "spending", "(LStandStill$Row;I)I"⟩) (owner := RX7) X [0, 1, 2, 3, 4, 5, 6, 7, 8, 9, 10, 11, 12, 13, 14, 15, 16, 17, 18, 19, 20, 21] 19 (c_X3_spending_k4 E h g g_q10) (cut_wR_wR_c ..) rfl rfl (ws' := (wR E h g q10.1)) (cut_wR_wR_w ..) (wR_19 ..) rfl k_368 k_371 k_369 k_379 k_380 k_73 k_381 (⟨rfl, rfl⟩) k_400 (by decide +kernel) ⟨Nat.le_of_ble_eq_true rfl, Nat.le_of_ble_eq_true rfl⟩ rfl (Nat.le_of_ble_eq_true rfl) rfl dX4_spends_7 ?_
            obtain ⟨q11, g_q11, hf⟩ := ob_t hf
            refine j_callS X [] (c_X4_held E g_q11) rfl rfl rfl (ws' := (wR E h g q10.1)) rfl k_401 k_402 k_78 k_403 (⟨rfl, rfl⟩) hdS_X4_held ⟨Nat.le_of_ble_eq_true rfl, Nat.le_of_ble_eq_true rfl⟩ rfl (Nat.le_of_ble_eq_true rfl) rfl dX4_spends_10 ?_
            obtain rfl := Option.some.inj hf
            exact j_iret X hr hlk rfl dX4_spends_13 hQ
          · replace hf := (if_neg n_2_4).symm.trans hf
            by_cases n_2_5 : q1.2 = 20
            · replace hf := (if_pos n_2_5).symm.trans hf
              refine j_stk (st' := [.ref (h 20)]) (by rw [n_2_5]; rfl) ?_
              refine j_aload_n X dX4_spends_5 rfl rfl ?_
              refine j_iload_n X dX4_spends_6 rfl rfl ?_
              obtain ⟨q12, g_q12, hf⟩ := ob_t hf
              refine j_callO (n := 2) (x := ⟨RX7, "spending", "(LStandStill$Row;I)I"⟩) (owner := RX7) X [0, 1, 2, 3, 4, 5, 6, 7, 8, 9, 10, 11, 12, 13, 14, 15, 16, 17, 18, 19, 20, 21] 20 (c_X2_spending_k5 E h g g_q12) (cut_wR_wR_c ..) rfl rfl (ws' := (wR E h g q12.1)) (cut_wR_wR_w ..) (wR_20 ..) rfl k_368 k_371 k_369 k_399 k_376 k_71 k_377 (⟨rfl, rfl⟩) k_400 (by decide +kernel) ⟨Nat.le_of_ble_eq_true rfl, Nat.le_of_ble_eq_true rfl⟩ rfl (Nat.le_of_ble_eq_true rfl) rfl dX4_spends_7 ?_
              obtain ⟨q13, g_q13, hf⟩ := ob_t hf
              refine j_callS X [] (c_X4_held E g_q13) rfl rfl rfl (ws' := (wR E h g q12.1)) rfl k_401 k_402 k_78 k_403 (⟨rfl, rfl⟩) hdS_X4_held ⟨Nat.le_of_ble_eq_true rfl, Nat.le_of_ble_eq_true rfl⟩ rfl (Nat.le_of_ble_eq_true rfl) rfl dX4_spends_10 ?_
              obtain rfl := Option.some.inj hf
              exact j_iret X hr hlk rfl dX4_spends_13 hQ
            · replace hf := (if_neg n_2_5).symm.trans hf
              by_cases n_2_6 : q1.2 = 21
              · replace hf := (if_pos n_2_6).symm.trans hf
                refine j_stk (st' := [.ref (h 21)]) (by rw [n_2_6]; rfl) ?_
                refine j_aload_n X dX4_spends_5 rfl rfl ?_
                refine j_iload_n X dX4_spends_6 rfl rfl ?_
                obtain ⟨q14, g_q14, hf⟩ := ob_t hf
                refine j_callO (n := 2) (x := ⟨RX7, "spending", "(LStandStill$Row;I)I"⟩) (owner := RX7) X [0, 1, 2, 3, 4, 5, 6, 7, 8, 9, 10, 11, 12, 13, 14, 15, 16, 17, 18, 19, 20, 21] 21 (c_X9_spending_k6 E h g g_q14) (cut_wR_wR_c ..) rfl rfl (ws' := (wR E h g q14.1)) (cut_wR_wR_w ..) (wR_21 ..) rfl k_368 k_371 k_369 k_384 k_385 k_75 k_386 (⟨rfl, rfl⟩) k_400 (by decide +kernel) ⟨Nat.le_of_ble_eq_true rfl, Nat.le_of_ble_eq_true rfl⟩ rfl (Nat.le_of_ble_eq_true rfl) rfl dX4_spends_7 ?_
                obtain ⟨q15, g_q15, hf⟩ := ob_t hf
                refine j_callS X [] (c_X4_held E g_q15) rfl rfl rfl (ws' := (wR E h g q14.1)) rfl k_401 k_402 k_78 k_403 (⟨rfl, rfl⟩) hdS_X4_held ⟨Nat.le_of_ble_eq_true rfl, Nat.le_of_ble_eq_true rfl⟩ rfl (Nat.le_of_ble_eq_true rfl) rfl dX4_spends_10 ?_
                obtain rfl := Option.some.inj hf
                exact j_iret X hr hlk rfl dX4_spends_13 hQ
              · replace hf := (if_neg n_2_6).symm.trans hf
                cases hf
def f_X7_biting_k0 (μ : Mem) (x1 : Int32) : Option (Mem × Int32) := some (μ, (10 : Int32))
set_option maxHeartbeats 4000000 in
set_option maxRecDepth 20000 in
theorem c_X7_biting_k0 (E : Ev) (h : Nat → Nat) (g : Nat → Option Nat) {μ : Mem} {x1 : Int32} {r : (Mem × Int32)} (hf : f_X7_biting_k0 μ x1 = some r) : Ct E yX7_biting cX7_biting 2 (some .int) (rmOf 0 0) (wR E h g μ) (wR E h g r.1) [.ref (h 15), .int x1] (some (.int r.2)) := by
  refine ct_start RX7 0 (by decide) rfl (Nat.le_of_ble_eq_true rfl) ?_
  intro p l e s m args below meth c A Q X hr hlk hQ
  rw [f_X7_biting_k0] at hf
  refine j_bipush (v := (10 : Int32)) X dX7_biting_0 (by decide) ?_
  obtain rfl := Option.some.inj hf
  exact j_iret X hr hlk rfl dX7_biting_2 hQ
