def f_X12_error (μ : Mem) (x1 : Int32) : Option (Mem × Int32) := (if inb x1 7 = true then (if inb x1 7 = true then bd (upA μ 4 (upd (μ 4) x1.toNatClampNeg ((μ 4 x1.toNatClampNeg) + (1 : Int32)))) fun μ3 => (some (μ3, ((-1000000000 : Int32) - x1))) else none) else none)
set_option maxHeartbeats 4000000 in
set_option maxRecDepth 20000 in
theorem c_X12_error (E : Ev) (h : Nat → Nat) (g : Nat → Option Nat) {μ : Mem} {x1 : Int32} {r : (Mem × Int32)} (hf : f_X12_error μ x1 = some r) : Ct E yX12_error cX12_error 2 (some .int) (rmOf 0 0) (wM E h g μ) (wM E h g r.1) [.ref (h 0), .int x1] (some (.int r.2)) := by
  refine ct_start RX12 0 (by decide) rfl (Nat.le_of_ble_eq_true rfl) ?_
  intro p l e s m args below meth c A Q X hr hlk hQ
  rw [f_X12_error] at hf
  refine j_aload_n X dX12_error_0 rfl rfl ?_
  refine j_get (C := RX12) (T := TX12) (N := 21) X iX12 0 (wM_0 ..) rfl 4 (by decide) k_920 rfl rfl dX12_error_1 ?_
  refine j_iload_n X dX12_error_4 rfl rfl ?_
  refine j_dup2 X dX12_error_5 rfl rfl ?_
  obtain ⟨c1, hf⟩ := oi_in hf
  refine j_iald X 4 (wM_4 ..) c1 dX12_error_6 ?_
  refine j_iconst (v := (1 : Int32)) X dX12_error_7 (by decide) ?_
  refine j_iadd X dX12_error_8 ?_
  obtain ⟨c2, hf⟩ := oi_in hf
  obtain ⟨μ3, e_μ3, hf⟩ := bd_e hf
  refine j_iast X 4 (wM_4 ..) c2 dX12_error_9 (ws' := (wM E h g μ3)) (by rw [e_μ3]; exact wM_s4 ..) ?_
  refine j_ldc X k_991 dX12_error_10 ?_
  refine j_iload_n X dX12_error_12 rfl rfl ?_
  refine j_isub X dX12_error_13 ?_
  obtain rfl := Option.some.inj hf
  exact j_iret X hr hlk rfl dX12_error_14 hQ
def f_X12_in (x0 : Int32) (x1 : Int32) (x2 : Int32) : Option Int32 := (if x0 < x1 then some (0 : Int32) else (if x2 < x0 then some (0 : Int32) else some (1 : Int32)))
set_option maxHeartbeats 4000000 in
set_option maxRecDepth 20000 in
theorem c_X12_in (E : Ev) {x0 : Int32} {x1 : Int32} {x2 : Int32} {r : Int32} (hf : f_X12_in x0 x1 x2 = some r) : Ct E yX12_in cX12_in 3 (some .boolean) (rmOf 0 0) [] [] [.int x0, .int x1, .int x2] (some (.int r)) := by
  refine ct_start RX12 0 (by decide) rfl (Nat.le_of_ble_eq_true rfl) ?_
  intro p l e s m args below meth c A Q X hr hlk hQ
  rw [f_X12_in] at hf
  refine j_iload_n X dX12_in_0 rfl rfl ?_
  refine j_iload_n X dX12_in_1 rfl rfl ?_
  refine j_icmp_lt (tgt := 14) X dX12_in_2 (by decide) (fun c_2 => ?_) (fun c_2 => ?_)
  · replace hf := (if_pos c_2).symm.trans hf
    refine j_iconst (v := (0 : Int32)) X dX12_in_14 (by decide) ?_
    obtain rfl := Option.some.inj hf
    exact j_iret X hr hlk rfl dX12_in_15 hQ
  · replace hf := (if_neg c_2).symm.trans hf
    refine j_iload_n X dX12_in_5 rfl rfl ?_
    refine j_iload_n X dX12_in_6 rfl rfl ?_
    refine j_icmp_gt (tgt := 14) X dX12_in_7 (by decide) (fun c_7 => ?_) (fun c_7 => ?_)
    · replace hf := (if_pos c_7).symm.trans hf
      refine j_iconst (v := (0 : Int32)) X dX12_in_14 (by decide) ?_
      obtain rfl := Option.some.inj hf
      exact j_iret X hr hlk rfl dX12_in_15 hQ
    · replace hf := (if_neg c_7).symm.trans hf
      refine j_iconst (v := (1 : Int32)) X dX12_in_10 (by decide) ?_
      refine j_goto (tgt := 15) X dX12_in_11 (by decide) ?_
      obtain rfl := Option.some.inj hf
      exact j_iret X hr hlk rfl dX12_in_15 hQ
def f_X12_held (x0 : Int32) (x1 : Int32) (x2 : Int32) : Option Int32 := (if x1 ≤ x0 then (if x0 ≤ x2 then some x0 else some x2) else some x1)
set_option maxHeartbeats 4000000 in
set_option maxRecDepth 20000 in
theorem c_X12_held (E : Ev) {x0 : Int32} {x1 : Int32} {x2 : Int32} {r : Int32} (hf : f_X12_held x0 x1 x2 = some r) : Ct E yX12_held cX12_held 3 (some .int) (rmOf 0 0) [] [] [.int x0, .int x1, .int x2] (some (.int r)) := by
  refine ct_start RX12 0 (by decide) rfl (Nat.le_of_ble_eq_true rfl) ?_
  intro p l e s m args below meth c A Q X hr hlk hQ
  rw [f_X12_held] at hf
  refine j_iload_n X dX12_held_0 rfl rfl ?_
  refine j_iload_n X dX12_held_1 rfl rfl ?_
  refine j_icmp_ge (tgt := 9) X dX12_held_2 (by decide) (fun c_2 => ?_) (fun c_2 => ?_)
  · replace hf := (if_pos c_2).symm.trans hf
    refine j_iload_n X dX12_held_9 rfl rfl ?_
    refine j_iload_n X dX12_held_10 rfl rfl ?_
    refine j_icmp_le (tgt := 18) X dX12_held_11 (by decide) (fun c_11 => ?_) (fun c_11 => ?_)
    · replace hf := (if_pos c_11).symm.trans hf
      refine j_iload_n X dX12_held_18 rfl rfl ?_
      obtain rfl := Option.some.inj hf
      exact j_iret X hr hlk rfl dX12_held_19 hQ
    · replace hf := (if_neg c_11).symm.trans hf
      refine j_iload_n X dX12_held_14 rfl rfl ?_
      refine j_goto (tgt := 19) X dX12_held_15 (by decide) ?_
      obtain rfl := Option.some.inj hf
      exact j_iret X hr hlk rfl dX12_held_19 hQ
  · replace hf := (if_neg c_2).symm.trans hf
    refine j_iload_n X dX12_held_5 rfl rfl ?_
    refine j_goto (tgt := 19) X dX12_held_6 (by decide) ?_
    obtain rfl := Option.some.inj hf
    exact j_iret X hr hlk rfl dX12_held_19 hQ
def f_X12_its (μ : Mem) (x1 : Int32) (x2 : Int32) : Option (Mem × Int32) := (if inb (((8 : Int32) + ((5 : Int32) * x1)) + x2) 387 = true then some (μ, (μ 1 (((8 : Int32) + ((5 : Int32) * x1)) + x2).toNatClampNeg)) else none)
set_option maxHeartbeats 4000000 in
set_option maxRecDepth 20000 in
theorem c_X12_its (E : Ev) (h : Nat → Nat) (g : Nat → Option Nat) {μ : Mem} {x1 : Int32} {x2 : Int32} {r : (Mem × Int32)} (hf : f_X12_its μ x1 x2 = some r) : Ct E yX12_its cX12_its 3 (some .int) (rmOf 0 0) (wM E h g μ) (wM E h g r.1) [.ref (h 0), .int x1, .int x2] (some (.int r.2)) := by
  refine ct_start RX12 0 (by decide) rfl (Nat.le_of_ble_eq_true rfl) ?_
  intro p l e s m args below meth c A Q X hr hlk hQ
  rw [f_X12_its] at hf
  refine j_aload_n X dX12_its_0 rfl rfl ?_
  refine j_get (C := RX12) (T := TX12) (N := 21) X iX12 0 (wM_0 ..) rfl 0 (by decide) k_916 rfl rfl dX12_its_1 ?_
  refine j_bipush (v := (8 : Int32)) X dX12_its_4 (by decide) ?_
  refine j_iconst (v := (5 : Int32)) X dX12_its_6 (by decide) ?_
  refine j_iload_n X dX12_its_7 rfl rfl ?_
  refine j_imul X dX12_its_8 ?_
  refine j_iadd X dX12_its_9 ?_
  refine j_iload_n X dX12_its_10 rfl rfl ?_
  refine j_iadd X dX12_its_11 ?_
  obtain ⟨c1, hf⟩ := oi_in hf
  refine j_iald X 1 (wM_1 ..) c1 dX12_its_12 ?_
  obtain rfl := Option.some.inj hf
  exact j_iret X hr hlk rfl dX12_its_13 hQ
def f_X12_lays1 (μ : Mem) (x1 : Int32) (x2 : Int32) (x3 : Int32) : Option Mem := (if inb (((8 : Int32) + ((5 : Int32) * x1)) + x2) 387 = true then bd (upA μ 1 (upd (μ 1) (((8 : Int32) + ((5 : Int32) * x1)) + x2).toNatClampNeg x3)) fun μ2 => (some μ2) else none)
set_option maxHeartbeats 4000000 in
set_option maxRecDepth 20000 in
theorem c_X12_lays1 (E : Ev) (h : Nat → Nat) (g : Nat → Option Nat) {μ : Mem} {x1 : Int32} {x2 : Int32} {x3 : Int32} {r : Mem} (hf : f_X12_lays1 μ x1 x2 x3 = some r) : Ct E yX12_lays1 cX12_lays1 4 none (rmOf 0 0) (wM E h g μ) (wM E h g r) [.ref (h 0), .int x1, .int x2, .int x3] none := by
  refine ct_start RX12 0 (by decide) rfl (Nat.le_of_ble_eq_true rfl) ?_
  intro p l e s m args below meth c A Q X hr hlk hQ
  rw [f_X12_lays1] at hf
  refine j_aload_n X dX12_lays1_0 rfl rfl ?_
  refine j_get (C := RX12) (T := TX12) (N := 21) X iX12 0 (wM_0 ..) rfl 0 (by decide) k_916 rfl rfl dX12_lays1_1 ?_
  refine j_bipush (v := (8 : Int32)) X dX12_lays1_4 (by decide) ?_
  refine j_iconst (v := (5 : Int32)) X dX12_lays1_6 (by decide) ?_
  refine j_iload_n X dX12_lays1_7 rfl rfl ?_
  refine j_imul X dX12_lays1_8 ?_
  refine j_iadd X dX12_lays1_9 ?_
  refine j_iload_n X dX12_lays1_10 rfl rfl ?_
  refine j_iadd X dX12_lays1_11 ?_
  refine j_iload_n X dX12_lays1_12 rfl rfl ?_
  obtain ⟨c1, hf⟩ := oi_in hf
  obtain ⟨μ2, e_μ2, hf⟩ := bd_e hf
  refine j_iast X 1 (wM_1 ..) c1 dX12_lays1_13 (ws' := (wM E h g μ2)) (by rw [e_μ2]; exact wM_s1 ..) ?_
  obtain rfl := Option.some.inj hf
  exact j_vret X hr hlk dX12_lays1_14 hQ
def f_X12_above (x0 : Int32) : Option Int32 := (if x0 = (4 : Int32) then some (1 : Int32) else (if x0 = (5 : Int32) then some (2 : Int32) else some (0 : Int32)))
set_option maxHeartbeats 4000000 in
set_option maxRecDepth 20000 in
theorem c_X12_above (E : Ev) {x0 : Int32} {r : Int32} (hf : f_X12_above x0 = some r) : Ct E yX12_above cX12_above 1 (some .int) (rmOf 0 0) [] [] [.int x0] (some (.int r)) := by
  refine ct_start RX12 0 (by decide) rfl (Nat.le_of_ble_eq_true rfl) ?_
  intro p l e s m args below meth c A Q X hr hlk hQ
  rw [f_X12_above] at hf
  refine j_iload_n X dX12_above_0 rfl rfl ?_
  refine j_iconst (v := (4 : Int32)) X dX12_above_1 (by decide) ?_
  refine j_icmp_ne (tgt := 9) X dX12_above_2 (by decide) (fun c_2 => ?_) (fun c_2 => ?_)
  · replace hf := (if_neg c_2).symm.trans hf
    refine j_iload_n X dX12_above_9 rfl rfl ?_
    refine j_iconst (v := (5 : Int32)) X dX12_above_10 (by decide) ?_
    refine j_icmp_ne (tgt := 18) X dX12_above_11 (by decide) (fun c_11 => ?_) (fun c_11 => ?_)
    · replace hf := (if_neg c_11).symm.trans hf
      refine j_iconst (v := (0 : Int32)) X dX12_above_18 (by decide) ?_
      obtain rfl := Option.some.inj hf
      exact j_iret X hr hlk rfl dX12_above_19 hQ
    · replace hf := (if_pos c_11).symm.trans hf
      refine j_iconst (v := (2 : Int32)) X dX12_above_14 (by decide) ?_
      refine j_goto (tgt := 19) X dX12_above_15 (by decide) ?_
      obtain rfl := Option.some.inj hf
      exact j_iret X hr hlk rfl dX12_above_19 hQ
  · replace hf := (if_pos c_2).symm.trans hf
    refine j_iconst (v := (1 : Int32)) X dX12_above_5 (by decide) ?_
    refine j_goto (tgt := 19) X dX12_above_6 (by decide) ?_
    obtain rfl := Option.some.inj hf
    exact j_iret X hr hlk rfl dX12_above_19 hQ
def f_X12_begins (μ : Mem) (x1 : Int32) : Option Mem := (if (30 : Int32) ≤ (μ 0 14) then some μ else (if inb (μ 0 14) 30 = true then bd (upA μ 9 (upd (μ 9) (μ 0 14).toNatClampNeg x1)) fun μ2 => (bd (upA μ2 0 (upd (μ2 0) 14 ((μ2 0 14) + (1 : Int32)))) fun μ3 => (some μ3)) else none))
set_option maxHeartbeats 4000000 in
set_option maxRecDepth 20000 in
theorem c_X12_begins (E : Ev) (h : Nat → Nat) (g : Nat → Option Nat) {μ : Mem} {x1 : Int32} {r : Mem} (hf : f_X12_begins μ x1 = some r) : Ct E yX12_begins cX12_begins 2 none (rmOf 0 0) (wM E h g μ) (wM E h g r) [.ref (h 0), .int x1] none := by
  refine ct_start RX12 0 (by decide) rfl (Nat.le_of_ble_eq_true rfl) ?_
  intro p l e s m args below meth c A Q X hr hlk hQ
  rw [f_X12_begins] at hf
  refine j_aload_n X dX12_begins_0 rfl rfl ?_
  refine j_get (C := RX12) (T := TX12) (N := 21) X iX12 0 (wM_0 ..) rfl 14 (by decide) k_930 rfl rfl dX12_begins_1 ?_
  refine j_bipush (v := (30 : Int32)) X dX12_begins_4 (by decide) ?_
  refine j_icmp_ge (tgt := 29) X dX12_begins_6 (by decide) (fun c_6 => ?_) (fun c_6 => ?_)
  · replace hf := (if_pos c_6).symm.trans hf
    obtain rfl := Option.some.inj hf
    exact j_vret X hr hlk dX12_begins_29 hQ
  · replace hf := (if_neg c_6).symm.trans hf
    refine j_aload_n X dX12_begins_9 rfl rfl ?_
    refine j_get (C := RX12) (T := TX12) (N := 21) X iX12 0 (wM_0 ..) rfl 13 (by decide) k_929 rfl rfl dX12_begins_10 ?_
    refine j_aload_n X dX12_begins_13 rfl rfl ?_
    refine j_get (C := RX12) (T := TX12) (N := 21) X iX12 0 (wM_0 ..) rfl 14 (by decide) k_930 rfl rfl dX12_begins_14 ?_
    refine j_iload_n X dX12_begins_17 rfl rfl ?_
    obtain ⟨c1, hf⟩ := oi_in hf
    obtain ⟨μ2, e_μ2, hf⟩ := bd_e hf
    refine j_iast X 9 (wM_9 ..) c1 dX12_begins_18 (ws' := (wM E h g μ2)) (by rw [e_μ2]; exact wM_s9 ..) ?_
    refine j_aload_n X dX12_begins_19 rfl rfl ?_
    refine j_dup X dX12_begins_20 rfl ?_
    refine j_get (C := RX12) (T := TX12) (N := 21) X iX12 0 (wM_0 ..) rfl 14 (by decide) k_930 rfl rfl dX12_begins_21 ?_
    refine j_iconst (v := (1 : Int32)) X dX12_begins_24 (by decide) ?_
    refine j_iadd X dX12_begins_25 ?_
    obtain ⟨μ3, e_μ3, hf⟩ := bd_e hf
    refine j_put (C := RX12) (T := TX12) (N := 21) X iX12 0 (wM_0 ..) rfl 14 (by decide) k_930 rfl tyX12 tyX12_ok nmX12 rfl (ty := .int) (by decide +kernel) rfl rfl (Nat.le_of_ble_eq_true rfl) dX12_begins_26 (ws' := (wM E h g μ3)) (by rw [e_μ3]; exact wM_f0_14 ..) ?_
    obtain rfl := Option.some.inj hf
    exact j_vret X hr hlk dX12_begins_29 hQ
theorem cut_wM_wM_c (E : Ev) (h : Nat → Nat) (g : Nat → Option Nat) (μ : Mem) : ([0, 1, 2, 3, 4, 5, 6, 7, 8, 9, 10, 11, 12, 13] : List Nat).map (fun i => (wM E h g μ)[i]?) = (wM E h g μ).map some := cutAll (n := 14) rfl
theorem cut_wM_wM_w (E : Ev) (h : Nat → Nat) (g : Nat → Option Nat) (μ : Mem) (ν : Mem) : putW (wM E h g μ) [0, 1, 2, 3, 4, 5, 6, 7, 8, 9, 10, 11, 12, 13] (wM E h g ν) = wM E h g ν := putW_all (n := 14) (by decide +kernel) rfl rfl
def f_X12_kindNow (μ : Mem) : Option (Mem × Int32) := (f_X12_its μ (μ 0 15) (0 : Int32)).bind fun q1 => (some (q1.1, q1.2))
set_option maxHeartbeats 4000000 in
set_option maxRecDepth 20000 in
theorem c_X12_kindNow (E : Ev) (h : Nat → Nat) (g : Nat → Option Nat) {μ : Mem} {r : (Mem × Int32)} (hf : f_X12_kindNow μ = some r) : Ct E yX12_kindNow cX12_kindNow 1 (some .int) (rmOf 1 22) (wM E h g μ) (wM E h g r.1) [.ref (h 0)] (some (.int r.2)) := by
  refine ct_start RX12 0 (by decide) rfl (Nat.le_of_ble_eq_true rfl) ?_
  intro p l e s m args below meth c A Q X hr hlk hQ
  rw [f_X12_kindNow] at hf
  refine j_aload_n X dX12_kindNow_0 rfl rfl ?_
  refine j_aload_n X dX12_kindNow_1 rfl rfl ?_
  refine j_get (C := RX12) (T := TX12) (N := 21) X iX12 0 (wM_0 ..) rfl 15 (by decide) k_931 rfl rfl dX12_kindNow_2 ?_
  refine j_iconst (v := (0 : Int32)) X dX12_kindNow_5 (by decide) ?_
  obtain ⟨q1, g_q1, hf⟩ := ob_t hf
  refine j_callV X [0, 1, 2, 3, 4, 5, 6, 7, 8, 9, 10, 11, 12, 13] 0 (c_X12_its E h g g_q1) (cut_wM_wM_c ..) rfl rfl (ws' := (wM E h g q1.1)) (cut_wM_wM_w ..) (wM_0 ..) rfl k_1052 k_1054 k_36 k_80 k_1055 (⟨rfl, rfl⟩) hdV_X12_its ⟨Nat.le_of_ble_eq_true rfl, Nat.le_of_ble_eq_true rfl⟩ rfl (Nat.le_of_ble_eq_true rfl) rfl dX12_kindNow_6 ?_
  obtain rfl := Option.some.inj hf
  exact j_iret X hr hlk rfl dX12_kindNow_9 hQ
def f_X12_mNow (μ : Mem) : Option (Mem × Int32) := (f_X12_its μ (μ 0 15) (1 : Int32)).bind fun q1 => (some (q1.1, q1.2))
set_option maxHeartbeats 4000000 in
set_option maxRecDepth 20000 in
theorem c_X12_mNow (E : Ev) (h : Nat → Nat) (g : Nat → Option Nat) {μ : Mem} {r : (Mem × Int32)} (hf : f_X12_mNow μ = some r) : Ct E yX12_mNow cX12_mNow 1 (some .int) (rmOf 1 22) (wM E h g μ) (wM E h g r.1) [.ref (h 0)] (some (.int r.2)) := by
  refine ct_start RX12 0 (by decide) rfl (Nat.le_of_ble_eq_true rfl) ?_
  intro p l e s m args below meth c A Q X hr hlk hQ
  rw [f_X12_mNow] at hf
  refine j_aload_n X dX12_mNow_0 rfl rfl ?_
  refine j_aload_n X dX12_mNow_1 rfl rfl ?_
  refine j_get (C := RX12) (T := TX12) (N := 21) X iX12 0 (wM_0 ..) rfl 15 (by decide) k_931 rfl rfl dX12_mNow_2 ?_
  refine j_iconst (v := (1 : Int32)) X dX12_mNow_5 (by decide) ?_
  obtain ⟨q1, g_q1, hf⟩ := ob_t hf
  refine j_callV X [0, 1, 2, 3, 4, 5, 6, 7, 8, 9, 10, 11, 12, 13] 0 (c_X12_its E h g g_q1) (cut_wM_wM_c ..) rfl rfl (ws' := (wM E h g q1.1)) (cut_wM_wM_w ..) (wM_0 ..) rfl k_1052 k_1054 k_36 k_80 k_1055 (⟨rfl, rfl⟩) hdV_X12_its ⟨Nat.le_of_ble_eq_true rfl, Nat.le_of_ble_eq_true rfl⟩ rfl (Nat.le_of_ble_eq_true rfl) rfl dX12_mNow_6 ?_
  obtain rfl := Option.some.inj hf
  exact j_iret X hr hlk rfl dX12_mNow_9 hQ
def f_X12_look (μ : Mem) : Option (Mem × Int32) := (if inb (2 : Int32) 387 = true then (if (μ 1 (2 : Int32).toNatClampNeg) ≤ (μ 0 5) then some (μ, (-1 : Int32)) else (if inb ((303 : Int32) + (μ 0 5)) 387 = true then some (μ, (μ 1 ((303 : Int32) + (μ 0 5)).toNatClampNeg)) else none)) else none)
set_option maxHeartbeats 4000000 in
set_option maxRecDepth 20000 in
theorem c_X12_look (E : Ev) (h : Nat → Nat) (g : Nat → Option Nat) {μ : Mem} {r : (Mem × Int32)} (hf : f_X12_look μ = some r) : Ct E yX12_look cX12_look 1 (some .int) (rmOf 0 0) (wM E h g μ) (wM E h g r.1) [.ref (h 0)] (some (.int r.2)) := by
  refine ct_start RX12 0 (by decide) rfl (Nat.le_of_ble_eq_true rfl) ?_
  intro p l e s m args below meth c A Q X hr hlk hQ
  rw [f_X12_look] at hf
  refine j_aload_n X dX12_look_0 rfl rfl ?_
  refine j_get (C := RX12) (T := TX12) (N := 21) X iX12 0 (wM_0 ..) rfl 5 (by decide) k_921 rfl rfl dX12_look_1 ?_
  refine j_aload_n X dX12_look_4 rfl rfl ?_
  refine j_get (C := RX12) (T := TX12) (N := 21) X iX12 0 (wM_0 ..) rfl 0 (by decide) k_916 rfl rfl dX12_look_5 ?_
  refine j_iconst (v := (2 : Int32)) X dX12_look_8 (by decide) ?_
  obtain ⟨c1, hf⟩ := oi_in hf
  refine j_iald X 1 (wM_1 ..) c1 dX12_look_9 ?_
  refine j_icmp_ge (tgt := 29) X dX12_look_10 (by decide) (fun c_10 => ?_) (fun c_10 => ?_)
  · replace hf := (if_pos c_10).symm.trans hf
    refine j_iconst (v := (-1 : Int32)) X dX12_look_29 (by decide) ?_
    obtain rfl := Option.some.inj hf
    exact j_iret X hr hlk rfl dX12_look_30 hQ
  · replace hf := (if_neg c_10).symm.trans hf
    refine j_aload_n X dX12_look_13 rfl rfl ?_
    refine j_get (C := RX12) (T := TX12) (N := 21) X iX12 0 (wM_0 ..) rfl 0 (by decide) k_916 rfl rfl dX12_look_14 ?_
    refine j_sipush (v := (303 : Int32)) X dX12_look_17 (by decide) ?_
    refine j_aload_n X dX12_look_20 rfl rfl ?_
    refine j_get (C := RX12) (T := TX12) (N := 21) X iX12 0 (wM_0 ..) rfl 5 (by decide) k_921 rfl rfl dX12_look_21 ?_
    refine j_iadd X dX12_look_24 ?_
    obtain ⟨c2, hf⟩ := oi_in hf
    refine j_iald X 1 (wM_1 ..) c2 dX12_look_25 ?_
    refine j_goto (tgt := 30) X dX12_look_26 (by decide) ?_
    obtain rfl := Option.some.inj hf
    exact j_iret X hr hlk rfl dX12_look_30 hQ
def f_X12_isName (μ : Mem) (x1 : Int32) : Option (Mem × Int32) := (if x1 = (109 : Int32) then some (μ, (1 : Int32)) else (if x1 = (112 : Int32) then some (μ, (1 : Int32)) else (if (μ 0 8) = 0 then (if x1 = (115 : Int32) then some (μ, (1 : Int32)) else some (μ, (0 : Int32))) else (if x1 = (100 : Int32) then some (μ, (1 : Int32)) else some (μ, (0 : Int32))))))
set_option maxHeartbeats 4000000 in
set_option maxRecDepth 20000 in
theorem c_X12_isName (E : Ev) (h : Nat → Nat) (g : Nat → Option Nat) {μ : Mem} {x1 : Int32} {r : (Mem × Int32)} (hf : f_X12_isName μ x1 = some r) : Ct E yX12_isName cX12_isName 2 (some .boolean) (rmOf 0 0) (wM E h g μ) (wM E h g r.1) [.ref (h 0), .int x1] (some (.int r.2)) := by
  refine ct_start RX12 0 (by decide) rfl (Nat.le_of_ble_eq_true rfl) ?_
  intro p l e s m args below meth c A Q X hr hlk hQ
  rw [f_X12_isName] at hf
  refine j_iload_n X dX12_isName_0 rfl rfl ?_
  refine j_bipush (v := (109 : Int32)) X dX12_isName_1 (by decide) ?_
  refine j_icmp_eq (tgt := 12) X dX12_isName_3 (by decide) (fun c_3 => ?_) (fun c_3 => ?_)
  · replace hf := (if_pos c_3).symm.trans hf
    refine j_iconst (v := (1 : Int32)) X dX12_isName_12 (by decide) ?_
    obtain rfl := Option.some.inj hf
    exact j_iret X hr hlk rfl dX12_isName_13 hQ
  · replace hf := (if_neg c_3).symm.trans hf
    refine j_iload_n X dX12_isName_6 rfl rfl ?_
    refine j_bipush (v := (112 : Int32)) X dX12_isName_7 (by decide) ?_
    refine j_icmp_ne (tgt := 14) X dX12_isName_9 (by decide) (fun c_9 => ?_) (fun c_9 => ?_)
    · replace hf := (if_neg c_9).symm.trans hf
      refine j_aload_n X dX12_isName_14 rfl rfl ?_
      refine j_get (C := RX12) (T := TX12) (N := 21) X iX12 0 (wM_0 ..) rfl 8 (by decide) k_924 rfl rfl dX12_isName_15 ?_
      refine j_if_ne (tgt := 35) X dX12_isName_18 (by decide) (fun c_18 => ?_) (fun c_18 => ?_)
      · replace hf := (if_neg c_18).symm.trans hf
        refine j_iload_n X dX12_isName_35 rfl rfl ?_
        refine j_bipush (v := (100 : Int32)) X dX12_isName_36 (by decide) ?_
        refine j_icmp_ne (tgt := 45) X dX12_isName_38 (by decide) (fun c_38 => ?_) (fun c_38 => ?_)
        · replace hf := (if_neg c_38).symm.trans hf
          refine j_iconst (v := (0 : Int32)) X dX12_isName_45 (by decide) ?_
          obtain rfl := Option.some.inj hf
          exact j_iret X hr hlk rfl dX12_isName_46 hQ
        · replace hf := (if_pos c_38).symm.trans hf
          refine j_iconst (v := (1 : Int32)) X dX12_isName_41 (by decide) ?_
          refine j_goto (tgt := 46) X dX12_isName_42 (by decide) ?_
          obtain rfl := Option.some.inj hf
          exact j_iret X hr hlk rfl dX12_isName_46 hQ
      · replace hf := (if_pos c_18).symm.trans hf
        refine j_iload_n X dX12_isName_21 rfl rfl ?_
        refine j_bipush (v := (115 : Int32)) X dX12_isName_22 (by decide) ?_
        refine j_icmp_ne (tgt := 31) X dX12_isName_24 (by decide) (fun c_24 => ?_) (fun c_24 => ?_)
        · replace hf := (if_neg c_24).symm.trans hf
          refine j_iconst (v := (0 : Int32)) X dX12_isName_31 (by decide) ?_
          refine j_goto (tgt := 46) X dX12_isName_32 (by decide) ?_
          obtain rfl := Option.some.inj hf
          exact j_iret X hr hlk rfl dX12_isName_46 hQ
        · replace hf := (if_pos c_24).symm.trans hf
          refine j_iconst (v := (1 : Int32)) X dX12_isName_27 (by decide) ?_
          refine j_goto (tgt := 46) X dX12_isName_28 (by decide) ?_
          obtain rfl := Option.some.inj hf
          exact j_iret X hr hlk rfl dX12_isName_46 hQ
    · replace hf := (if_pos c_9).symm.trans hf
      refine j_iconst (v := (1 : Int32)) X dX12_isName_12 (by decide) ?_
      obtain rfl := Option.some.inj hf
      exact j_iret X hr hlk rfl dX12_isName_13 hQ
def f_X12_step1 (μ : Mem) (x1 : Int32) (x2 : Int32) : Option Mem := (if inb ((2 : Int32) * (μ 0 7)) 124 = true then bd (upA μ 5 (upd (μ 5) ((2 : Int32) * (μ 0 7)).toNatClampNeg x1)) fun μ2 => ((if inb (((2 : Int32) * (μ2 0 7)) + (1 : Int32)) 124 = true then bd (upA μ2 5 (upd (μ2 5) (((2 : Int32) * (μ2 0 7)) + (1 : Int32)).toNatClampNeg x2)) fun μ4 => (bd (upA μ4 0 (upd (μ4 0) 7 ((μ4 0 7) + (1 : Int32)))) fun μ5 => (some μ5)) else none)) else none)
set_option maxHeartbeats 4000000 in
set_option maxRecDepth 20000 in
theorem c_X12_step1 (E : Ev) (h : Nat → Nat) (g : Nat → Option Nat) {μ : Mem} {x1 : Int32} {x2 : Int32} {r : Mem} (hf : f_X12_step1 μ x1 x2 = some r) : Ct E yX12_step1 cX12_step1 3 none (rmOf 0 0) (wM E h g μ) (wM E h g r) [.ref (h 0), .int x1, .int x2] none := by
  refine ct_start RX12 0 (by decide) rfl (Nat.le_of_ble_eq_true rfl) ?_
  intro p l e s m args below meth c A Q X hr hlk hQ
  rw [f_X12_step1] at hf
  refine j_aload_n X dX12_step1_0 rfl rfl ?_
  refine j_get (C := RX12) (T := TX12) (N := 21) X iX12 0 (wM_0 ..) rfl 9 (by decide) k_925 rfl rfl dX12_step1_1 ?_
  refine j_iconst (v := (2 : Int32)) X dX12_step1_4 (by decide) ?_
  refine j_aload_n X dX12_step1_5 rfl rfl ?_
  refine j_get (C := RX12) (T := TX12) (N := 21) X iX12 0 (wM_0 ..) rfl 7 (by decide) k_923 rfl rfl dX12_step1_6 ?_
  refine j_imul X dX12_step1_9 ?_
  refine j_iload_n X dX12_step1_10 rfl rfl ?_
  obtain ⟨c1, hf⟩ := oi_in hf
  obtain ⟨μ2, e_μ2, hf⟩ := bd_e hf
  refine j_iast X 5 (wM_5 ..) c1 dX12_step1_11 (ws' := (wM E h g μ2)) (by rw [e_μ2]; exact wM_s5 ..) ?_
  refine j_aload_n X dX12_step1_12 rfl rfl ?_
  refine j_get (C := RX12) (T := TX12) (N := 21) X iX12 0 (wM_0 ..) rfl 9 (by decide) k_925 rfl rfl dX12_step1_13 ?_
  refine j_iconst (v := (2 : Int32)) X dX12_step1_16 (by decide) ?_
  refine j_aload_n X dX12_step1_17 rfl rfl ?_
  refine j_get (C := RX12) (T := TX12) (N := 21) X iX12 0 (wM_0 ..) rfl 7 (by decide) k_923 rfl rfl dX12_step1_18 ?_
  refine j_imul X dX12_step1_21 ?_
  refine j_iconst (v := (1 : Int32)) X dX12_step1_22 (by decide) ?_
  refine j_iadd X dX12_step1_23 ?_
  refine j_iload_n X dX12_step1_24 rfl rfl ?_
  obtain ⟨c3, hf⟩ := oi_in hf
  obtain ⟨μ4, e_μ4, hf⟩ := bd_e hf
  refine j_iast X 5 (wM_5 ..) c3 dX12_step1_25 (ws' := (wM E h g μ4)) (by rw [e_μ4]; exact wM_s5 ..) ?_
  refine j_aload_n X dX12_step1_26 rfl rfl ?_
  refine j_dup X dX12_step1_27 rfl ?_
  refine j_get (C := RX12) (T := TX12) (N := 21) X iX12 0 (wM_0 ..) rfl 7 (by decide) k_923 rfl rfl dX12_step1_28 ?_
  refine j_iconst (v := (1 : Int32)) X dX12_step1_31 (by decide) ?_
  refine j_iadd X dX12_step1_32 ?_
  obtain ⟨μ5, e_μ5, hf⟩ := bd_e hf
  refine j_put (C := RX12) (T := TX12) (N := 21) X iX12 0 (wM_0 ..) rfl 7 (by decide) k_923 rfl tyX12 tyX12_ok nmX12 rfl (ty := .int) (by decide +kernel) rfl rfl (Nat.le_of_ble_eq_true rfl) dX12_step1_33 (ws' := (wM E h g μ5)) (by rw [e_μ5]; exact wM_f0_7 ..) ?_
  obtain rfl := Option.some.inj hf
  exact j_vret X hr hlk dX12_step1_36 hQ
def f_X12_opens (μ : Mem) : Option (Mem × Int32) := (if (μ 0 6) = (5 : Int32) then some (μ, (0 : Int32)) else bd (upA μ 0 (upd (μ 0) 6 ((μ 0 6) + (1 : Int32)))) fun μ1 => (bd (upA μ1 0 (upd (μ1 0) 5 ((μ1 0 5) + (1 : Int32)))) fun μ2 => (some (μ2, (1 : Int32)))))
set_option maxHeartbeats 4000000 in
set_option maxRecDepth 20000 in
theorem c_X12_opens (E : Ev) (h : Nat → Nat) (g : Nat → Option Nat) {μ : Mem} {r : (Mem × Int32)} (hf : f_X12_opens μ = some r) : Ct E yX12_opens cX12_opens 1 (some .boolean) (rmOf 0 0) (wM E h g μ) (wM E h g r.1) [.ref (h 0)] (some (.int r.2)) := by
  refine ct_start RX12 0 (by decide) rfl (Nat.le_of_ble_eq_true rfl) ?_
  intro p l e s m args below meth c A Q X hr hlk hQ
  rw [f_X12_opens] at hf
  refine j_aload_n X dX12_opens_0 rfl rfl ?_
  refine j_get (C := RX12) (T := TX12) (N := 21) X iX12 0 (wM_0 ..) rfl 6 (by decide) k_922 rfl rfl dX12_opens_1 ?_
  refine j_iconst (v := (5 : Int32)) X dX12_opens_4 (by decide) ?_
  refine j_icmp_ne (tgt := 10) X dX12_opens_5 (by decide) (fun c_5 => ?_) (fun c_5 => ?_)
  · replace hf := (if_neg c_5).symm.trans hf
    refine j_aload_n X dX12_opens_10 rfl rfl ?_
    refine j_dup X dX12_opens_11 rfl ?_
    refine j_get (C := RX12) (T := TX12) (N := 21) X iX12 0 (wM_0 ..) rfl 6 (by decide) k_922 rfl rfl dX12_opens_12 ?_
    refine j_iconst (v := (1 : Int32)) X dX12_opens_15 (by decide) ?_
    refine j_iadd X dX12_opens_16 ?_
    obtain ⟨μ1, e_μ1, hf⟩ := bd_e hf
    refine j_put (C := RX12) (T := TX12) (N := 21) X iX12 0 (wM_0 ..) rfl 6 (by decide) k_922 rfl tyX12 tyX12_ok nmX12 rfl (ty := .int) (by decide +kernel) rfl rfl (Nat.le_of_ble_eq_true rfl) dX12_opens_17 (ws' := (wM E h g μ1)) (by rw [e_μ1]; exact wM_f0_6 ..) ?_
    refine j_aload_n X dX12_opens_20 rfl rfl ?_
    refine j_dup X dX12_opens_21 rfl ?_
    refine j_get (C := RX12) (T := TX12) (N := 21) X iX12 0 (wM_0 ..) rfl 5 (by decide) k_921 rfl rfl dX12_opens_22 ?_
    refine j_iconst (v := (1 : Int32)) X dX12_opens_25 (by decide) ?_
    refine j_iadd X dX12_opens_26 ?_
    obtain ⟨μ2, e_μ2, hf⟩ := bd_e hf
    refine j_put (C := RX12) (T := TX12) (N := 21) X iX12 0 (wM_0 ..) rfl 5 (by decide) k_921 rfl tyX12 tyX12_ok nmX12 rfl (ty := .int) (by decide +kernel) rfl rfl (Nat.le_of_ble_eq_true rfl) dX12_opens_27 (ws' := (wM E h g μ2)) (by rw [e_μ2]; exact wM_f0_5 ..) ?_
    refine j_iconst (v := (1 : Int32)) X dX12_opens_30 (by decide) ?_
    obtain rfl := Option.some.inj hf
    exact j_iret X hr hlk rfl dX12_opens_31 hQ
  · replace hf := (if_pos c_5).symm.trans hf
    refine j_iconst (v := (0 : Int32)) X dX12_opens_8 (by decide) ?_
    obtain rfl := Option.some.inj hf
    exact j_iret X hr hlk rfl dX12_opens_9 hQ
abbrev RT_Mh : Type := (Mem → Int32 → Int32 → Option (Mem × Int32))
def HC_X12_holdsAs (f : Mem → Int32 → Int32 → Option (Mem × Int32)) (F L : Nat) : Prop := ∀ (E : Ev) (h : Nat → Nat) (g : Nat → Option Nat) (μ : Mem) (x1 : Int32) (x2 : Int32) (r : (Mem × Int32)), f μ x1 x2 = some r → Ct E yX12_holdsAs cX12_holdsAs 3 (some .int) (rmOf F L) (wM E h g μ) (wM E h g r.1) [.ref (h 0), .int x1, .int x2] (some (.int r.2))
def f_X12_holdsAs_b (rec : RT_Mh) (μ : Mem) (x1 : Int32) (x2 : Int32) : Option (Mem × Int32) := (if x1 = (0 : Int32) then (f_X12_begins μ (10 : Int32)).bind fun q1 => (some (q1, (x2 + (q1 0 15)))) else (if x1 = (1 : Int32) then (f_X12_begins μ (20 : Int32)).bind fun q2 => ((f_X12_above (1 : Int32)).bind fun q3 => ((rec q2 q3 x2).bind fun q4 => (some (q4.1, (q4.2 - (4 : Int32)))))) else (if x1 = (4 : Int32) then (f_X12_begins μ (50 : Int32)).bind fun q5 => ((f_X12_above (4 : Int32)).bind fun q6 => ((rec q5 q6 x2).bind fun q7 => (some (q7.1, (q7.2 * (3 : Int32)))))) else (if x1 = (6 : Int32) then (f_X12_begins μ (70 : Int32)).bind fun q8 => (some (q8, (9 : Int32))) else (f_X12_above x1).bind fun q9 => ((rec μ q9 x2).bind fun q10 => (some (q10.1, q10.2)))))))
set_option maxHeartbeats 4000000 in
set_option maxRecDepth 20000 in
theorem c_X12_holdsAs_b (rec : RT_Mh) (F L : Nat) (H0 : HC_X12_holdsAs rec F L) (E : Ev) (h : Nat → Nat) (g : Nat → Option Nat) {μ : Mem} {x1 : Int32} {x2 : Int32} {r : (Mem × Int32)} (hf : f_X12_holdsAs_b rec μ x1 x2 = some r) : Ct E yX12_holdsAs cX12_holdsAs 3 (some .int) (rmOf (F + 1) (L + 22)) (wM E h g μ) (wM E h g r.1) [.ref (h 0), .int x1, .int x2] (some (.int r.2)) := by
  refine ct_start RX12 0 (by decide) rfl (Nat.le_of_ble_eq_true rfl) ?_
  intro p l e s m args below meth c A Q X hr hlk hQ
  rw [f_X12_holdsAs_b] at hf
  refine j_iload_n X dX12_holdsAs_0 rfl rfl ?_
  by_cases n_1_0 : x1 = (0 : Int32)
  · replace hf := (if_pos n_1_0).symm.trans hf
    refine j_tsI (k := (0 : Int32)) (tgt := 44) X n_1_0 dX12_holdsAs_1 (by decide) (by decide) rfl (by decide) ?_
    refine j_aload_n X dX12_holdsAs_44 rfl rfl ?_
    refine j_bipush (v := (10 : Int32)) X dX12_holdsAs_45 (by decide) ?_
    obtain ⟨q1, g_q1, hf⟩ := ob_t hf
    refine j_callV X [0, 1, 2, 3, 4, 5, 6, 7, 8, 9, 10, 11, 12, 13] 0 (c_X12_begins E h g g_q1) (cut_wM_wM_c ..) rfl rfl (ws' := (wM E h g q1)) (cut_wM_wM_w ..) (wM_0 ..) rfl k_1259 k_1261 k_61 k_80 k_1262 (⟨rfl, rfl⟩) hdV_X12_begins ⟨by dsimp only [rmOf]; omega, by dsimp only [rmOf]; omega⟩ rfl (Nat.le_of_ble_eq_true rfl) rfl dX12_holdsAs_47 ?_
    refine j_iload_n X dX12_holdsAs_50 rfl rfl ?_
    refine j_aload_n X dX12_holdsAs_51 rfl rfl ?_
    refine j_get (C := RX12) (T := TX12) (N := 21) X iX12 0 (wM_0 ..) rfl 15 (by decide) k_931 rfl rfl dX12_holdsAs_52 ?_
    refine j_iadd X dX12_holdsAs_55 ?_
    obtain rfl := Option.some.inj hf
    exact j_iret X hr hlk rfl dX12_holdsAs_56 hQ
  · replace hf := (if_neg n_1_0).symm.trans hf
    by_cases n_1_1 : x1 = (1 : Int32)
    · replace hf := (if_pos n_1_1).symm.trans hf
      refine j_tsI (k := (1 : Int32)) (tgt := 57) X n_1_1 dX12_holdsAs_1 (by decide) (by decide) rfl (by decide) ?_
      refine j_aload_n X dX12_holdsAs_57 rfl rfl ?_
      refine j_bipush (v := (20 : Int32)) X dX12_holdsAs_58 (by decide) ?_
      obtain ⟨q2, g_q2, hf⟩ := ob_t hf
      refine j_callV X [0, 1, 2, 3, 4, 5, 6, 7, 8, 9, 10, 11, 12, 13] 0 (c_X12_begins E h g g_q2) (cut_wM_wM_c ..) rfl rfl (ws' := (wM E h g q2)) (cut_wM_wM_w ..) (wM_0 ..) rfl k_1259 k_1261 k_61 k_80 k_1262 (⟨rfl, rfl⟩) hdV_X12_begins ⟨by dsimp only [rmOf]; omega, by dsimp only [rmOf]; omega⟩ rfl (Nat.le_of_ble_eq_true rfl) rfl dX12_holdsAs_60 ?_
      refine j_aload_n X dX12_holdsAs_63 rfl rfl ?_
      refine j_iconst (v := (1 : Int32)) X dX12_holdsAs_64 (by decide) ?_
      obtain ⟨q3, g_q3, hf⟩ := ob_t hf
      refine j_callS X [] (c_X12_above E g_q3) rfl rfl rfl (ws' := (wM E h g q2)) rfl k_1263 k_1264 k_80 k_1265 (⟨rfl, rfl⟩) hdS_X12_above ⟨by dsimp only [rmOf]; omega, by dsimp only [rmOf]; omega⟩ rfl (Nat.le_of_ble_eq_true rfl) rfl dX12_holdsAs_65 ?_
      refine j_iload_n X dX12_holdsAs_68 rfl rfl ?_
      obtain ⟨q4, g_q4, hf⟩ := ob_t hf
      refine j_callV X [0, 1, 2, 3, 4, 5, 6, 7, 8, 9, 10, 11, 12, 13] 0 (H0 E h g _ _ _ _ g_q4) (cut_wM_wM_c ..) rfl rfl (ws' := (wM E h g q4.1)) (cut_wM_wM_w ..) (wM_0 ..) rfl k_1255 k_1257 k_60 k_80 k_1258 (⟨rfl, rfl⟩) hdV_X12_holdsAs ⟨by dsimp only [rmOf]; omega, by dsimp only [rmOf]; omega⟩ rfl (Nat.le_of_ble_eq_true rfl) rfl dX12_holdsAs_69 ?_
      refine j_iconst (v := (4 : Int32)) X dX12_holdsAs_72 (by decide) ?_
      refine j_isub X dX12_holdsAs_73 ?_
      obtain rfl := Option.some.inj hf
      exact j_iret X hr hlk rfl dX12_holdsAs_74 hQ
    · replace hf := (if_neg n_1_1).symm.trans hf
      by_cases n_1_2 : x1 = (4 : Int32)
      · replace hf := (if_pos n_1_2).symm.trans hf
        refine j_tsI (k := (4 : Int32)) (tgt := 75) X n_1_2 dX12_holdsAs_1 (by decide) (by decide) rfl (by decide) ?_
        refine j_aload_n X dX12_holdsAs_75 rfl rfl ?_
        refine j_bipush (v := (50 : Int32)) X dX12_holdsAs_76 (by decide) ?_
        obtain ⟨q5, g_q5, hf⟩ := ob_t hf
        refine j_callV X [0, 1, 2, 3, 4, 5, 6, 7, 8, 9, 10, 11, 12, 13] 0 (c_X12_begins E h g g_q5) (cut_wM_wM_c ..) rfl rfl (ws' := (wM E h g q5)) (cut_wM_wM_w ..) (wM_0 ..) rfl k_1259 k_1261 k_61 k_80 k_1262 (⟨rfl, rfl⟩) hdV_X12_begins ⟨by dsimp only [rmOf]; omega, by dsimp only [rmOf]; omega⟩ rfl (Nat.le_of_ble_eq_true rfl) rfl dX12_holdsAs_78 ?_
        refine j_aload_n X dX12_holdsAs_81 rfl rfl ?_
        refine j_iconst (v := (4 : Int32)) X dX12_holdsAs_82 (by decide) ?_
        obtain ⟨q6, g_q6, hf⟩ := ob_t hf
        refine j_callS X [] (c_X12_above E g_q6) rfl rfl rfl (ws' := (wM E h g q5)) rfl k_1263 k_1264 k_80 k_1265 (⟨rfl, rfl⟩) hdS_X12_above ⟨by dsimp only [rmOf]; omega, by dsimp only [rmOf]; omega⟩ rfl (Nat.le_of_ble_eq_true rfl) rfl dX12_holdsAs_83 ?_
        refine j_iload_n X dX12_holdsAs_86 rfl rfl ?_
        obtain ⟨q7, g_q7, hf⟩ := ob_t hf
        refine j_callV X [0, 1, 2, 3, 4, 5, 6, 7, 8, 9, 10, 11, 12, 13] 0 (H0 E h g _ _ _ _ g_q7) (cut_wM_wM_c ..) rfl rfl (ws' := (wM E h g q7.1)) (cut_wM_wM_w ..) (wM_0 ..) rfl k_1255 k_1257 k_60 k_80 k_1258 (⟨rfl, rfl⟩) hdV_X12_holdsAs ⟨by dsimp only [rmOf]; omega, by dsimp only [rmOf]; omega⟩ rfl (Nat.le_of_ble_eq_true rfl) rfl dX12_holdsAs_87 ?_
        refine j_iconst (v := (3 : Int32)) X dX12_holdsAs_90 (by decide) ?_
        refine j_imul X dX12_holdsAs_91 ?_
        obtain rfl := Option.some.inj hf
        exact j_iret X hr hlk rfl dX12_holdsAs_92 hQ
      · replace hf := (if_neg n_1_2).symm.trans hf
        by_cases n_1_3 : x1 = (6 : Int32)
        · replace hf := (if_pos n_1_3).symm.trans hf
          refine j_tsI (k := (6 : Int32)) (tgt := 93) X n_1_3 dX12_holdsAs_1 (by decide) (by decide) rfl (by decide) ?_
          refine j_aload_n X dX12_holdsAs_93 rfl rfl ?_
          refine j_bipush (v := (70 : Int32)) X dX12_holdsAs_94 (by decide) ?_
          obtain ⟨q8, g_q8, hf⟩ := ob_t hf
          refine j_callV X [0, 1, 2, 3, 4, 5, 6, 7, 8, 9, 10, 11, 12, 13] 0 (c_X12_begins E h g g_q8) (cut_wM_wM_c ..) rfl rfl (ws' := (wM E h g q8)) (cut_wM_wM_w ..) (wM_0 ..) rfl k_1259 k_1261 k_61 k_80 k_1262 (⟨rfl, rfl⟩) hdV_X12_begins ⟨by dsimp only [rmOf]; omega, by dsimp only [rmOf]; omega⟩ rfl (Nat.le_of_ble_eq_true rfl) rfl dX12_holdsAs_96 ?_
          refine j_bipush (v := (9 : Int32)) X dX12_holdsAs_99 (by decide) ?_
          obtain rfl := Option.some.inj hf
          exact j_iret X hr hlk rfl dX12_holdsAs_101 hQ
        · replace hf := (if_neg n_1_3).symm.trans hf
          refine j_tsD (tgt := 102) X [0, 1, 4, 6] (List.forall_mem_cons.mpr ⟨lv_neT n_1_0 (a := 0) rfl, List.forall_mem_cons.mpr ⟨lv_neT n_1_1 (a := 1) rfl, List.forall_mem_cons.mpr ⟨lv_neT n_1_2 (a := 4) rfl, List.forall_mem_cons.mpr ⟨lv_neT n_1_3 (a := 6) rfl, fun _ h => by cases h⟩⟩⟩⟩) (by decide) (by decide) dX12_holdsAs_1 (by decide) ?_
          refine j_aload_n X dX12_holdsAs_102 rfl rfl ?_
          refine j_iload_n X dX12_holdsAs_103 rfl rfl ?_
          obtain ⟨q9, g_q9, hf⟩ := ob_t hf
          refine j_callS X [] (c_X12_above E g_q9) rfl rfl rfl (ws' := (wM E h g μ)) rfl k_1263 k_1264 k_80 k_1265 (⟨rfl, rfl⟩) hdS_X12_above ⟨by dsimp only [rmOf]; omega, by dsimp only [rmOf]; omega⟩ rfl (Nat.le_of_ble_eq_true rfl) rfl dX12_holdsAs_104 ?_
          refine j_iload_n X dX12_holdsAs_107 rfl rfl ?_
          obtain ⟨q10, g_q10, hf⟩ := ob_t hf
          refine j_callV X [0, 1, 2, 3, 4, 5, 6, 7, 8, 9, 10, 11, 12, 13] 0 (H0 E h g _ _ _ _ g_q10) (cut_wM_wM_c ..) rfl rfl (ws' := (wM E h g q10.1)) (cut_wM_wM_w ..) (wM_0 ..) rfl k_1255 k_1257 k_60 k_80 k_1258 (⟨rfl, rfl⟩) hdV_X12_holdsAs ⟨by dsimp only [rmOf]; omega, by dsimp only [rmOf]; omega⟩ rfl (Nat.le_of_ble_eq_true rfl) rfl dX12_holdsAs_108 ?_
          obtain rfl := Option.some.inj hf
          exact j_iret X hr hlk rfl dX12_holdsAs_111 hQ
def rec_Mh : Nat → RT_Mh
  | 0 => (fun _ _ _ => none)
  | d + 1 => (f_X12_holdsAs_b (rec_Mh d))
theorem rk_Mh : ∀ d : Nat, HC_X12_holdsAs (rec_Mh d) (1 * d) (22 * d) := by
  intro d
  induction d with
  | zero => exact (fun E h g μ x1 x2 r hf => by cases (show none = some r from hf))
  | succ d H0 =>
    exact fun E h g μ x1 x2 r hf => c_X12_holdsAs_b (rec_Mh d) (1 * d) (22 * d) H0 E h g hf
def f_X12_holdsAs (μ : Mem) (x1 : Int32) (x2 : Int32) : Option (Mem × Int32) := (rec_Mh 8) μ x1 x2
theorem c_X12_holdsAs (E : Ev) (h : Nat → Nat) (g : Nat → Option Nat) {μ : Mem} {x1 : Int32} {x2 : Int32} {r : (Mem × Int32)} (hf : f_X12_holdsAs μ x1 x2 = some r) : Ct E yX12_holdsAs cX12_holdsAs 3 (some .int) (rmOf 8 176) (wM E h g μ) (wM E h g r.1) [.ref (h 0), .int x1, .int x2] (some (.int r.2)) := (rk_Mh 8) E h g _ _ _ _ hf
