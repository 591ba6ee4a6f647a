def f_X12_error (μ : Mem) (x1 : Int32) : Option (Mem × Int32) := (if inb x1 7 = true then (if inb x1 7 = true then bd (upA μ 4 (upd (μ 4) x1.toNatClampNeg ((μ 4 x1.toNatClampNeg) + (1 : Int32)))) fun μ3 => (some (μ3, ((-1000000000 : Int32) - x1))) else none) else none)
set_option maxHeartbeats 4000000 in
set_option maxRecDepth 20000 in
theorem c_X12_error (E : Ev) (h : Nat → Nat) (g : Nat → Option Nat) {μ : Mem} {x1 : Int32} {r : (Mem × Int32)} (hf : f_X12_error μ x1 = some r) : Ct E yX12_error cX12_error 2 (some .int) (rmOf 0 0) (wM E h g μ) (wM E h g r.1) [.ref (h 0), .int x1] (some (.int r.2)) := by
  refine ct_start RX12 0 (by decide) rfl (Nat.le_of_ble_eq_true rfl) ?_
  intro p l e s m args below meth c A Q X hr hlk hQ
  rw [f_X12_error] at hf
  refine j_aload_n X dX12_error_0 rfl rfl ?_
  refine j_get (C := RX12) (T := TX12) (N := 21) X iX12 0 (wM_0 ..) rfl 4 (by decide) k_920 rfl rfl dX12_error_1 ?_
  refine j_iload_n X dX12_error_4 rfl rfl ?_
  refine j_dup2 X dX12_error_5 rfl rfl ?_
  obtain ⟨c1, hf⟩ := oi_in hf
  refine j_iald X 4 (wM_4 ..) c1 dX12_error_6 ?_
  refine j_iconst (v := (1 : Int32)) X dX12_error_7 (by decide) ?_
  refine j_iadd X dX12_error_8 ?_
  obtain ⟨c2, hf⟩ := oi_in hf
  obtain ⟨μ3, e_μ3, hf⟩ := bd_e hf
  refine j_iast X 4 (wM_4 ..) c2 dX12_error_9 (ws' := (wM E h g μ3)) (by rw [e_μ3]; exact wM_s4 ..) ?_
  refine j_ldc X k_991 dX12_error_10 ?_
  refine j_iload_n X dX12_error_12 rfl rfl ?_
  refine j_isub X dX12_error_13 ?_
  obtain rfl := Option.some.inj hf
  exact j_iret X hr hlk rfl dX12_error_14 hQ
def f_X12_in (x0 : Int32) (x1 : Int32) (x2 : Int32) : Option Int32 := (if x0 < x1 then some (0 : Int32) else (if x2 < x0 then some (0 : Int32) else some (1 : Int32)))
set_option maxHeartbeats 4000000 in
set_option maxRecDepth 20000 in
theorem c_X12_in (E : Ev) {x0 : Int32} {x1 : Int32} {x2 : Int32} {r : Int32} (hf : f_X12_in x0 x1 x2 = some r) : Ct E yX12_in cX12_in 3 (some .boolean) (rmOf 0 0) [] [] [.int x0, .int x1, .int x2] (some (.int r)) := by
  refine ct_start RX12 0 (by decide) rfl (Nat.le_of_ble_eq_true rfl) ?_
  intro p l e s m args below meth c A Q X hr hlk hQ
  rw [f_X12_in] at hf
  refine j_iload_n X dX12_in_0 rfl rfl ?_
  refine j_iload_n X dX12_in_1 rfl rfl ?_
  refine j_icmp_lt (tgt := 14) X dX12_in_2 (by decide) (fun c_2 => ?_) (fun c_2 => ?_)
  · replace hf := (if_pos c_2).symm.trans hf
    refine j_iconst (v := (0 : Int32)) X dX12_in_14 (by decide) ?_
    obtain rfl := Option.some.inj hf
    exact j_iret X hr hlk rfl dX12_in_15 hQ
  · replace hf := (if_neg c_2).symm.trans hf
    refine j_iload_n X dX12_in_5 rfl rfl ?_
    refine j_iload_n X dX12_in_6 rfl rfl ?_
    refine j_icmp_gt (tgt := 14) X dX12_in_7 (by decide) (fun c_7 => ?_) (fun c_7 => ?_)
    · replace hf := (if_pos c_7).symm.trans hf
      refine j_iconst (v := (0 : Int32)) X dX12_in_14 (by decide) ?_
      obtain rfl := Option.some.inj hf
      exact j_iret X hr hlk rfl dX12_in_15 hQ
    · replace hf := (if_neg c_7).symm.trans hf
      refine j_iconst (v := (1 : Int32)) X dX12_in_10 (by decide) ?_
      refine j_goto (tgt := 15) X dX12_in_11 (by decide) ?_
      obtain rfl := Option.some.inj hf
      exact j_iret X hr hlk rfl dX12_in_15 hQ
def f_X12_held (x0 : Int32) (x1 : Int32) (x2 : Int32) : Option Int32 := (if x1 ≤ x0 then (if x0 ≤ x2 then some x0 else some x2) else some x1)
set_option maxHeartbeats 4000000 in
set_option maxRecDepth 20000 in
theorem c_X12_held (E : Ev) {x0 : Int32} {x1 : Int32} {x2 : Int32} {r : Int32} (hf : f_X12_held x0 x1 x2 = some r) : Ct E yX12_held cX12_held 3 (some .int) (rmOf 0 0) [] [] [.int x0, .int x1, .int x2] (some (.int r)) := by
  refine ct_start RX12 0 (by decide) rfl (Nat.le_of_ble_eq_true rfl) ?_
  intro p l e s m args below meth c A Q X hr hlk hQ
  rw [f_X12_held] at hf
  refine j_iload_n X dX12_held_0 rfl rfl ?_
  refine j_iload_n X dX12_held_1 rfl rfl ?_
  refine j_icmp_ge (tgt := 9) X dX12_held_2 (by decide) (fun c_2 => ?_) (fun c_2 => ?_)
  · replace hf := (if_pos c_2).symm.trans hf
    refine j_iload_n X dX12_held_9 rfl rfl ?_
    refine j_iload_n X dX12_held_10 rfl rfl ?_
    refine j_icmp_le (tgt := 18) X dX12_held_11 (by decide) (fun c_11 => ?_) (fun c_11 => ?_)
    · replace hf := (if_pos c_11).symm.trans hf
      refine j_iload_n X dX12_held_18 rfl rfl ?_
      obtain rfl := Option.some.inj hf
      exact j_iret X hr hlk rfl dX12_held_19 hQ
    · replace hf := (if_neg c_11).symm.trans hf
      refine j_iload_n X dX12_held_14 rfl rfl ?_
      refine j_goto (tgt := 19) X dX12_held_15 (by decide) ?_
      obtain rfl := Option.some.inj hf
      exact j_iret X hr hlk rfl dX12_held_19 hQ
  · replace hf := (if_neg c_2).symm.trans hf
    refine j_iload_n X dX12_held_5 rfl rfl ?_
    refine j_goto (tgt := 19) X dX12_held_6 (by decide) ?_
    obtain rfl := Option.some.inj hf
    exact j_iret X hr hlk rfl dX12_held_19 hQ
def f_X12_layDown_L2 : Nat → Mem → Int32 → Int32 → Option Mem
  | 0, _, _, _ => none
  | n + 1, μ, x1, x2 => (if (53 : Int32) ≤ x2 then some μ else (if inb x2 387 = true then (if inb (((53 : Int32) * x1) + x2) 106 = true then bd (upA μ 3 (upd (μ 3) (((53 : Int32) * x1) + x2).toNatClampNeg (μ 1 x2.toNatClampNeg))) fun μ3 => ((f_X12_layDown_L2 n) μ3 x1 (x2 + (1 : Int32))) else none) else none))
def f_X12_layDown (μ : Mem) (x1 : Int32) : Option Mem := f_X12_layDown_L2 fuel0 μ x1 (0 : Int32)
set_option maxHeartbeats 4000000 in
set_option maxRecDepth 20000 in
theorem c_X12_layDown (E : Ev) (h : Nat → Nat) (g : Nat → Option Nat) {μ : Mem} {x1 : Int32} {r : Mem} (hf : f_X12_layDown μ x1 = some r) : Ct E yX12_layDown cX12_layDown 3 none (rmOf 0 0) (wM E h g μ) (wM E h g r) [.ref (h 0), .int x1] none := by
  refine ct_start RX12 1 (by decide) rfl (Nat.le_of_ble_eq_true rfl) ?_
  intro p l e s m args below meth c A Q X hr hlk hQ
  have lab2 : ∀ (n : Nat) (μ : Mem) (x1 : Int32) (x2 : Int32), f_X12_layDown_L2 n μ x1 x2 = some r → J p l e (rmOf 0 0) s m args below meth c E A 3 Q (wM E h g μ) [some (.ref (h 0)), some (.int x1), some (.int x2)] 2 [] := by
    intro n
    induction n with
    | zero => intro μ x1 x2 hf; cases (show none = some r from hf)
    | succ n ih =>
      intro μ x1 x2 hf
      rw [f_X12_layDown_L2] at hf
      refine j_iload_n X dX12_layDown_2 rfl rfl ?_
      refine j_bipush (v := (53 : Int32)) X dX12_layDown_3 (by decide) ?_
      refine j_icmp_ge (tgt := 31) X dX12_layDown_5 (by decide) (fun c_5 => ?_) (fun c_5 => ?_)
      · replace hf := (if_pos c_5).symm.trans hf
        obtain rfl := Option.some.inj hf
        exact j_vret X hr hlk dX12_layDown_31 hQ
      · replace hf := (if_neg c_5).symm.trans hf
        refine j_aload_n X dX12_layDown_8 rfl rfl ?_
        refine j_get (C := RX12) (T := TX12) (N := 21) X iX12 0 (wM_0 ..) rfl 2 (by decide) k_918 rfl rfl dX12_layDown_9 ?_
        refine j_bipush (v := (53 : Int32)) X dX12_layDown_12 (by decide) ?_
        refine j_iload_n X dX12_layDown_14 rfl rfl ?_
        refine j_imul X dX12_layDown_15 ?_
        refine j_iload_n X dX12_layDown_16 rfl rfl ?_
        refine j_iadd X dX12_layDown_17 ?_
        refine j_aload_n X dX12_layDown_18 rfl rfl ?_
        refine j_get (C := RX12) (T := TX12) (N := 21) X iX12 0 (wM_0 ..) rfl 0 (by decide) k_916 rfl rfl dX12_layDown_19 ?_
        refine j_iload_n X dX12_layDown_22 rfl rfl ?_
        obtain ⟨c1, hf⟩ := oi_in hf
        refine j_iald X 1 (wM_1 ..) c1 dX12_layDown_23 ?_
        obtain ⟨c2, hf⟩ := oi_in hf
        obtain ⟨μ3, e_μ3, hf⟩ := bd_e hf
        refine j_iast X 3 (wM_3 ..) c2 dX12_layDown_24 (ws' := (wM E h g μ3)) (by rw [e_μ3]; exact wM_s3 ..) ?_
        refine j_iinc2 (k := (1 : Int32)) X dX12_layDown_25 (by decide) (by decide) rfl ?_
        refine j_goto (tgt := 2) X dX12_layDown_28 (by decide) ?_
        refine j_keep [true, true, true] rfl ?_
        exact ih _ _ _ hf
  rw [f_X12_layDown] at hf
  refine j_iconst (v := (0 : Int32)) X dX12_layDown_0 (by decide) ?_
  refine j_istore_n2 X dX12_layDown_1 rfl (by decide) rfl ?_
  refine j_keep [true, true, true] rfl ?_
  exact lab2 _ _ _ _ hf
def f_X12_layBack_L2 : Nat → Mem → Int32 → Int32 → Option Mem
  | 0, _, _, _ => none
  | n + 1, μ, x1, x2 => (if (53 : Int32) ≤ x2 then some μ else (if inb (((53 : Int32) * x1) + x2) 106 = true then (if inb x2 387 = true then bd (upA μ 1 (upd (μ 1) x2.toNatClampNeg (μ 3 (((53 : Int32) * x1) + x2).toNatClampNeg))) fun μ3 => ((f_X12_layBack_L2 n) μ3 x1 (x2 + (1 : Int32))) else none) else none))
def f_X12_layBack (μ : Mem) (x1 : Int32) : Option Mem := f_X12_layBack_L2 fuel0 μ x1 (0 : Int32)
set_option maxHeartbeats 4000000 in
set_option maxRecDepth 20000 in
theorem c_X12_layBack (E : Ev) (h : Nat → Nat) (g : Nat → Option Nat) {μ : Mem} {x1 : Int32} {r : Mem} (hf : f_X12_layBack μ x1 = some r) : Ct E yX12_layBack cX12_layBack 3 none (rmOf 0 0) (wM E h g μ) (wM E h g r) [.ref (h 0), .int x1] none := by
  refine ct_start RX12 1 (by decide) rfl (Nat.le_of_ble_eq_true rfl) ?_
  intro p l e s m args below meth c A Q X hr hlk hQ
  have lab2 : ∀ (n : Nat) (μ : Mem) (x1 : Int32) (x2 : Int32), f_X12_layBack_L2 n μ x1 x2 = some r → J p l e (rmOf 0 0) s m args below meth c E A 3 Q (wM E h g μ) [some (.ref (h 0)), some (.int x1), some (.int x2)] 2 [] := by
    intro n
    induction n with
    | zero => intro μ x1 x2 hf; cases (show none = some r from hf)
    | succ n ih =>
      intro μ x1 x2 hf
      rw [f_X12_layBack_L2] at hf
      refine j_iload_n X dX12_layBack_2 rfl rfl ?_
      refine j_bipush (v := (53 : Int32)) X dX12_layBack_3 (by decide) ?_
      refine j_icmp_ge (tgt := 31) X dX12_layBack_5 (by decide) (fun c_5 => ?_) (fun c_5 => ?_)
      · replace hf := (if_pos c_5).symm.trans hf
        obtain rfl := Option.some.inj hf
        exact j_vret X hr hlk dX12_layBack_31 hQ
      · replace hf := (if_neg c_5).symm.trans hf
        refine j_aload_n X dX12_layBack_8 rfl rfl ?_
        refine j_get (C := RX12) (T := TX12) (N := 21) X iX12 0 (wM_0 ..) rfl 0 (by decide) k_916 rfl rfl dX12_layBack_9 ?_
        refine j_iload_n X dX12_layBack_12 rfl rfl ?_
        refine j_aload_n X dX12_layBack_13 rfl rfl ?_
        refine j_get (C := RX12) (T := TX12) (N := 21) X iX12 0 (wM_0 ..) rfl 2 (by decide) k_918 rfl rfl dX12_layBack_14 ?_
        refine j_bipush (v := (53 : Int32)) X dX12_layBack_17 (by decide) ?_
        refine j_iload_n X dX12_layBack_19 rfl rfl ?_
        refine j_imul X dX12_layBack_20 ?_
        refine j_iload_n X dX12_layBack_21 rfl rfl ?_
        refine j_iadd X dX12_layBack_22 ?_
        obtain ⟨c1, hf⟩ := oi_in hf
        refine j_iald X 3 (wM_3 ..) c1 dX12_layBack_23 ?_
        obtain ⟨c2, hf⟩ := oi_in hf
        obtain ⟨μ3, e_μ3, hf⟩ := bd_e hf
        refine j_iast X 1 (wM_1 ..) c2 dX12_layBack_24 (ws' := (wM E h g μ3)) (by rw [e_μ3]; exact wM_s1 ..) ?_
        refine j_iinc2 (k := (1 : Int32)) X dX12_layBack_25 (by decide) (by decide) rfl ?_
        refine j_goto (tgt := 2) X dX12_layBack_28 (by decide) ?_
        refine j_keep [true, true, true] rfl ?_
        exact ih _ _ _ hf
  rw [f_X12_layBack] at hf
  refine j_iconst (v := (0 : Int32)) X dX12_layBack_0 (by decide) ?_
  refine j_istore_n2 X dX12_layBack_1 rfl (by decide) rfl ?_
  refine j_keep [true, true, true] rfl ?_
  exact lab2 _ _ _ _ hf
def f_X12_isOne (x0 : Int32) : Option Int32 := (f_X12_in x0 (0 : Int32) (8 : Int32)).bind fun q1 => ((if q1 = 0 ∨ q1 = 1 then some q1 else none))
set_option maxHeartbeats 4000000 in
set_option maxRecDepth 20000 in
theorem c_X12_isOne (E : Ev) {x0 : Int32} {r : Int32} (hf : f_X12_isOne x0 = some r) : Ct E yX12_isOne cX12_isOne 1 (some .boolean) (rmOf 1 22) [] [] [.int x0] (some (.int r)) := by
  refine ct_start RX12 0 (by decide) rfl (Nat.le_of_ble_eq_true rfl) ?_
  intro p l e s m args below meth c A Q X hr hlk hQ
  rw [f_X12_isOne] at hf
  refine j_iload_n X dX12_isOne_0 rfl rfl ?_
  refine j_iconst (v := (0 : Int32)) X dX12_isOne_1 (by decide) ?_
  refine j_bipush (v := (8 : Int32)) X dX12_isOne_2 (by decide) ?_
  obtain ⟨q1, g_q1, hf⟩ := ob_t hf
  refine j_callS X [] (c_X12_in E g_q1) rfl rfl rfl (ws' := []) rfl k_984 k_985 k_80 k_986 (⟨rfl, rfl⟩) hdS_X12_in ⟨Nat.le_of_ble_eq_true rfl, Nat.le_of_ble_eq_true rfl⟩ rfl (Nat.le_of_ble_eq_true rfl) rfl dX12_isOne_4 ?_
  obtain ⟨c2, hf⟩ := oi_t hf
  obtain rfl := Option.some.inj hf
  exact j_iret X hr hlk (nb01 c2) dX12_isOne_7 hQ
def f_X12_its (μ : Mem) (x1 : Int32) (x2 : Int32) : Option (Mem × Int32) := (if inb (((8 : Int32) + ((5 : Int32) * x1)) + x2) 387 = true then some (μ, (μ 1 (((8 : Int32) + ((5 : Int32) * x1)) + x2).toNatClampNeg)) else none)
set_option maxHeartbeats 4000000 in
set_option maxRecDepth 20000 in
theorem c_X12_its (E : Ev) (h : Nat → Nat) (g : Nat → Option Nat) {μ : Mem} {x1 : Int32} {x2 : Int32} {r : (Mem × Int32)} (hf : f_X12_its μ x1 x2 = some r) : Ct E yX12_its cX12_its 3 (some .int) (rmOf 0 0) (wM E h g μ) (wM E h g r.1) [.ref (h 0), .int x1, .int x2] (some (.int r.2)) := by
  refine ct_start RX12 0 (by decide) rfl (Nat.le_of_ble_eq_true rfl) ?_
  intro p l e s m args below meth c A Q X hr hlk hQ
  rw [f_X12_its] at hf
  refine j_aload_n X dX12_its_0 rfl rfl ?_
  refine j_get (C := RX12) (T := TX12) (N := 21) X iX12 0 (wM_0 ..) rfl 0 (by decide) k_916 rfl rfl dX12_its_1 ?_
  refine j_bipush (v := (8 : Int32)) X dX12_its_4 (by decide) ?_
  refine j_iconst (v := (5 : Int32)) X dX12_its_6 (by decide) ?_
  refine j_iload_n X dX12_its_7 rfl rfl ?_
  refine j_imul X dX12_its_8 ?_
  refine j_iadd X dX12_its_9 ?_
  refine j_iload_n X dX12_its_10 rfl rfl ?_
  refine j_iadd X dX12_its_11 ?_
  obtain ⟨c1, hf⟩ := oi_in hf
  refine j_iald X 1 (wM_1 ..) c1 dX12_its_12 ?_
  obtain rfl := Option.some.inj hf
  exact j_iret X hr hlk rfl dX12_its_13 hQ
def f_X12_lays1 (μ : Mem) (x1 : Int32) (x2 : Int32) (x3 : Int32) : Option Mem := (if inb (((8 : Int32) + ((5 : Int32) * x1)) + x2) 387 = true then bd (upA μ 1 (upd (μ 1) (((8 : Int32) + ((5 : Int32) * x1)) + x2).toNatClampNeg x3)) fun μ2 => (some μ2) else none)
set_option maxHeartbeats 4000000 in
set_option maxRecDepth 20000 in
theorem c_X12_lays1 (E : Ev) (h : Nat → Nat) (g : Nat → Option Nat) {μ : Mem} {x1 : Int32} {x2 : Int32} {x3 : Int32} {r : Mem} (hf : f_X12_lays1 μ x1 x2 x3 = some r) : Ct E yX12_lays1 cX12_lays1 4 none (rmOf 0 0) (wM E h g μ) (wM E h g r) [.ref (h 0), .int x1, .int x2, .int x3] none := by
  refine ct_start RX12 0 (by decide) rfl (Nat.le_of_ble_eq_true rfl) ?_
  intro p l e s m args below meth c A Q X hr hlk hQ
  rw [f_X12_lays1] at hf
  refine j_aload_n X dX12_lays1_0 rfl rfl ?_
  refine j_get (C := RX12) (T := TX12) (N := 21) X iX12 0 (wM_0 ..) rfl 0 (by decide) k_916 rfl rfl dX12_lays1_1 ?_
  refine j_bipush (v := (8 : Int32)) X dX12_lays1_4 (by decide) ?_
  refine j_iconst (v := (5 : Int32)) X dX12_lays1_6 (by decide) ?_
  refine j_iload_n X dX12_lays1_7 rfl rfl ?_
  refine j_imul X dX12_lays1_8 ?_
  refine j_iadd X dX12_lays1_9 ?_
  refine j_iload_n X dX12_lays1_10 rfl rfl ?_
  refine j_iadd X dX12_lays1_11 ?_
  refine j_iload_n X dX12_lays1_12 rfl rfl ?_
  obtain ⟨c1, hf⟩ := oi_in hf
  obtain ⟨μ2, e_μ2, hf⟩ := bd_e hf
  refine j_iast X 1 (wM_1 ..) c1 dX12_lays1_13 (ws' := (wM E h g μ2)) (by rw [e_μ2]; exact wM_s1 ..) ?_
  obtain rfl := Option.some.inj hf
  exact j_vret X hr hlk dX12_lays1_14 hQ
def f_X12_change1 (μ : Mem) (x1 : Int32) (x2 : Int32) : Option (Mem × Int32) := (if inb x1 387 = true then bd (μ 1 x1.toNatClampNeg) fun y2 => ((if inb x1 387 = true then bd (upA μ 1 (upd (μ 1) x1.toNatClampNeg x2)) fun μ4 => (some (μ4, y2)) else none)) else none)
set_option maxHeartbeats 4000000 in
set_option maxRecDepth 20000 in
theorem c_X12_change1 (E : Ev) (h : Nat → Nat) (g : Nat → Option Nat) {μ : Mem} {x1 : Int32} {x2 : Int32} {r : (Mem × Int32)} (hf : f_X12_change1 μ x1 x2 = some r) : Ct E yX12_change1 cX12_change1 4 (some .int) (rmOf 0 0) (wM E h g μ) (wM E h g r.1) [.ref (h 0), .int x1, .int x2] (some (.int r.2)) := by
  refine ct_start RX12 1 (by decide) rfl (Nat.le_of_ble_eq_true rfl) ?_
  intro p l e s m args below meth c A Q X hr hlk hQ
  rw [f_X12_change1] at hf
  refine j_aload_n X dX12_change1_0 rfl rfl ?_
  refine j_get (C := RX12) (T := TX12) (N := 21) X iX12 0 (wM_0 ..) rfl 0 (by decide) k_916 rfl rfl dX12_change1_1 ?_
  refine j_iload_n X dX12_change1_4 rfl rfl ?_
  obtain ⟨c1, hf⟩ := oi_in hf
  refine j_iald X 1 (wM_1 ..) c1 dX12_change1_5 ?_
  obtain ⟨y2, e_y2, hf⟩ := bd_e hf
  refine j_top e_y2 ?_
  refine j_istore_n3 X dX12_change1_6 rfl (by decide) rfl ?_
  refine j_aload_n X dX12_change1_7 rfl rfl ?_
  refine j_get (C := RX12) (T := TX12) (N := 21) X iX12 0 (wM_0 ..) rfl 0 (by decide) k_916 rfl rfl dX12_change1_8 ?_
  refine j_iload_n X dX12_change1_11 rfl rfl ?_
  refine j_iload_n X dX12_change1_12 rfl rfl ?_
  obtain ⟨c3, hf⟩ := oi_in hf
  obtain ⟨μ4, e_μ4, hf⟩ := bd_e hf
  refine j_iast X 1 (wM_1 ..) c3 dX12_change1_13 (ws' := (wM E h g μ4)) (by rw [e_μ4]; exact wM_s1 ..) ?_
  refine j_iload_n X dX12_change1_14 rfl rfl ?_
  obtain rfl := Option.some.inj hf
  exact j_iret X hr hlk rfl dX12_change1_15 hQ
def f_X12_stands (μ : Mem) (x1 : Int32) : Option (Mem × Int32) := (f_X12_its μ x1 (4 : Int32)).bind fun q1 => ((if q1.2 = (-1 : Int32) then some (q1.1, (1 : Int32)) else some (q1.1, (0 : Int32))))
set_option maxHeartbeats 4000000 in
set_option maxRecDepth 20000 in
theorem c_X12_stands (E : Ev) (h : Nat → Nat) (g : Nat → Option Nat) {μ : Mem} {x1 : Int32} {r : (Mem × Int32)} (hf : f_X12_stands μ x1 = some r) : Ct E yX12_stands cX12_stands 2 (some .boolean) (rmOf 1 22) (wM E h g μ) (wM E h g r.1) [.ref (h 0), .int x1] (some (.int r.2)) := by
  refine ct_start RX12 0 (by decide) rfl (Nat.le_of_ble_eq_true rfl) ?_
  intro p l e s m args below meth c A Q X hr hlk hQ
  rw [f_X12_stands] at hf
  refine j_aload_n X dX12_stands_0 rfl rfl ?_
  refine j_iload_n X dX12_stands_1 rfl rfl ?_
  refine j_iconst (v := (4 : Int32)) X dX12_stands_2 (by decide) ?_
  obtain ⟨q1, g_q1, hf⟩ := ob_t hf
  refine j_callV X [0, 1, 2, 3, 4, 5, 6, 7, 8, 9, 10, 11, 12, 13] 0 (c_X12_its E h g g_q1) (cut0_c ..) rfl rfl (ws' := (wM E h g q1.1)) (cut0_w ..) (wM_0 ..) rfl k_1052 k_1054 k_36 k_80 k_1055 (⟨rfl, rfl⟩) hdV_X12_its ⟨Nat.le_of_ble_eq_true rfl, Nat.le_of_ble_eq_true rfl⟩ rfl (Nat.le_of_ble_eq_true rfl) rfl dX12_stands_3 ?_
  refine j_iconst (v := (-1 : Int32)) X dX12_stands_6 (by decide) ?_
  refine j_icmp_ne (tgt := 14) X dX12_stands_7 (by decide) (fun c_7 => ?_) (fun c_7 => ?_)
  · replace hf := (if_neg c_7).symm.trans hf
    refine j_iconst (v := (0 : Int32)) X dX12_stands_14 (by decide) ?_
    obtain rfl := Option.some.inj hf
    exact j_iret X hr hlk rfl dX12_stands_15 hQ
  · replace hf := (if_pos c_7).symm.trans hf
    refine j_iconst (v := (1 : Int32)) X dX12_stands_10 (by decide) ?_
    refine j_goto (tgt := 15) X dX12_stands_11 (by decide) ?_
    obtain rfl := Option.some.inj hf
    exact j_iret X hr hlk rfl dX12_stands_15 hQ
def f_X12_howMany_L4 : Nat → Mem → Int32 → Int32 → Option (Mem × Int32)
  | 0, _, _, _ => none
  | n + 1, μ, x1, x2 => (if (9 : Int32) ≤ x2 then some (μ, x1) else (f_X12_stands μ x2).bind fun q1 => ((if q1.2 = 0 then bd (x1 + (0 : Int32)) fun y2 => ((f_X12_howMany_L4 n) q1.1 y2 (x2 + (1 : Int32))) else bd (x1 + (1 : Int32)) fun y3 => ((f_X12_howMany_L4 n) q1.1 y3 (x2 + (1 : Int32))))))
def f_X12_howMany (μ : Mem) : Option (Mem × Int32) := f_X12_howMany_L4 fuel0 μ (0 : Int32) (0 : Int32)
set_option maxHeartbeats 4000000 in
set_option maxRecDepth 20000 in
theorem c_X12_howMany (E : Ev) (h : Nat → Nat) (g : Nat → Option Nat) {μ : Mem} {r : (Mem × Int32)} (hf : f_X12_howMany μ = some r) : Ct E yX12_howMany cX12_howMany 3 (some .int) (rmOf 2 43) (wM E h g μ) (wM E h g r.1) [.ref (h 0)] (some (.int r.2)) := by
  refine ct_start RX12 2 (by decide) rfl (Nat.le_of_ble_eq_true rfl) ?_
  intro p l e s m args below meth c A Q X hr hlk hQ
  have lab4 : ∀ (n : Nat) (μ : Mem) (x1 : Int32) (x2 : Int32), f_X12_howMany_L4 n μ x1 x2 = some r → J p l e (rmOf 2 43) s m args below meth c E A 3 Q (wM E h g μ) [some (.ref (h 0)), some (.int x1), some (.int x2)] 4 [] := by
    intro n
    induction n with
    | zero => intro μ x1 x2 hf; cases (show none = some r from hf)
    | succ n ih =>
      intro μ x1 x2 hf
      rw [f_X12_howMany_L4] at hf
      refine j_iload_n X dX12_howMany_4 rfl rfl ?_
      refine j_bipush (v := (9 : Int32)) X dX12_howMany_5 (by decide) ?_
      refine j_icmp_ge (tgt := 32) X dX12_howMany_7 (by decide) (fun c_7 => ?_) (fun c_7 => ?_)
      · replace hf := (if_pos c_7).symm.trans hf
        refine j_iload_n X dX12_howMany_32 rfl rfl ?_
        obtain rfl := Option.some.inj hf
        exact j_iret X hr hlk rfl dX12_howMany_33 hQ
      · replace hf := (if_neg c_7).symm.trans hf
        refine j_iload_n X dX12_howMany_10 rfl rfl ?_
        refine j_aload_n X dX12_howMany_11 rfl rfl ?_
        refine j_iload_n X dX12_howMany_12 rfl rfl ?_
        obtain ⟨q1, g_q1, hf⟩ := ob_t hf
        refine j_callV X [0, 1, 2, 3, 4, 5, 6, 7, 8, 9, 10, 11, 12, 13] 0 (c_X12_stands E h g g_q1) (cut0_c ..) rfl rfl (ws' := (wM E h g q1.1)) (cut0_w ..) (wM_0 ..) rfl k_1093 k_1095 k_41 k_80 k_1096 (⟨rfl, rfl⟩) hdV_X12_stands ⟨Nat.le_of_ble_eq_true rfl, Nat.le_of_ble_eq_true rfl⟩ rfl (Nat.le_of_ble_eq_true rfl) rfl dX12_howMany_13 ?_
        refine j_if_eq (tgt := 23) X dX12_howMany_16 (by decide) (fun c_16 => ?_) (fun c_16 => ?_)
        · replace hf := (if_pos c_16).symm.trans hf
          refine j_iconst (v := (0 : Int32)) X dX12_howMany_23 (by decide) ?_
          refine j_iadd X dX12_howMany_24 ?_
          obtain ⟨y2, e_y2, hf⟩ := bd_e hf
          refine j_top e_y2 ?_
          refine j_istore_n1 X dX12_howMany_25 rfl (by decide) rfl ?_
          refine j_iinc2 (k := (1 : Int32)) X dX12_howMany_26 (by decide) (by decide) rfl ?_
          refine j_goto (tgt := 4) X dX12_howMany_29 (by decide) ?_
          refine j_keep [true, true, true] rfl ?_
          exact ih _ _ _ hf
        · replace hf := (if_neg c_16).symm.trans hf
          refine j_iconst (v := (1 : Int32)) X dX12_howMany_19 (by decide) ?_
          refine j_goto (tgt := 24) X dX12_howMany_20 (by decide) ?_
          refine j_iadd X dX12_howMany_24 ?_
          obtain ⟨y3, e_y3, hf⟩ := bd_e hf
          refine j_top e_y3 ?_
          refine j_istore_n1 X dX12_howMany_25 rfl (by decide) rfl ?_
          refine j_iinc2 (k := (1 : Int32)) X dX12_howMany_26 (by decide) (by decide) rfl ?_
          refine j_goto (tgt := 4) X dX12_howMany_29 (by decide) ?_
          refine j_keep [true, true, true] rfl ?_
          exact ih _ _ _ hf
  rw [f_X12_howMany] at hf
  refine j_iconst (v := (0 : Int32)) X dX12_howMany_0 (by decide) ?_
  refine j_istore_n1 X dX12_howMany_1 rfl (by decide) rfl ?_
  refine j_iconst (v := (0 : Int32)) X dX12_howMany_2 (by decide) ?_
  refine j_istore_n2 X dX12_howMany_3 rfl (by decide) rfl ?_
  refine j_keep [true, true, true] rfl ?_
  exact lab4 _ _ _ _ hf
def f_X12_standsAt_L2 : Nat → Mem → Int32 → Int32 → Option (Mem × Int32)
  | 0, _, _, _ => none
  | n + 1, μ, x1, x2 => (f_X12_its μ x2 (2 : Int32)).bind fun q1 => ((if q1.2 = x1 then some (q1.1, x2) else (f_X12_standsAt_L2 n) q1.1 x1 (x2 + (1 : Int32))))
def f_X12_standsAt (μ : Mem) (x1 : Int32) : Option (Mem × Int32) := f_X12_standsAt_L2 fuel0 μ x1 (0 : Int32)
set_option maxHeartbeats 4000000 in
set_option maxRecDepth 20000 in
theorem c_X12_standsAt (E : Ev) (h : Nat → Nat) (g : Nat → Option Nat) {μ : Mem} {x1 : Int32} {r : (Mem × Int32)} (hf : f_X12_standsAt μ x1 = some r) : Ct E yX12_standsAt cX12_standsAt 3 (some .int) (rmOf 1 22) (wM E h g μ) (wM E h g r.1) [.ref (h 0), .int x1] (some (.int r.2)) := by
  refine ct_start RX12 1 (by decide) rfl (Nat.le_of_ble_eq_true rfl) ?_
  intro p l e s m args below meth c A Q X hr hlk hQ
  have lab2 : ∀ (n : Nat) (μ : Mem) (x1 : Int32) (x2 : Int32), f_X12_standsAt_L2 n μ x1 x2 = some r → J p l e (rmOf 1 22) s m args below meth c E A 3 Q (wM E h g μ) [some (.ref (h 0)), some (.int x1), some (.int x2)] 2 [] := by
    intro n
    induction n with
    | zero => intro μ x1 x2 hf; cases (show none = some r from hf)
    | succ n ih =>
      intro μ x1 x2 hf
      rw [f_X12_standsAt_L2] at hf
      refine j_aload_n X dX12_standsAt_2 rfl rfl ?_
      refine j_iload_n X dX12_standsAt_3 rfl rfl ?_
      refine j_iconst (v := (2 : Int32)) X dX12_standsAt_4 (by decide) ?_
      obtain ⟨q1, g_q1, hf⟩ := ob_t hf
      refine j_callV X [0, 1, 2, 3, 4, 5, 6, 7, 8, 9, 10, 11, 12, 13] 0 (c_X12_its E h g g_q1) (cut0_c ..) rfl rfl (ws' := (wM E h g q1.1)) (cut0_w ..) (wM_0 ..) rfl k_1052 k_1054 k_36 k_80 k_1055 (⟨rfl, rfl⟩) hdV_X12_its ⟨Nat.le_of_ble_eq_true rfl, Nat.le_of_ble_eq_true rfl⟩ rfl (Nat.le_of_ble_eq_true rfl) rfl dX12_standsAt_5 ?_
      refine j_iload_n X dX12_standsAt_8 rfl rfl ?_
      refine j_icmp_eq (tgt := 18) X dX12_standsAt_9 (by decide) (fun c_9 => ?_) (fun c_9 => ?_)
      · replace hf := (if_pos c_9).symm.trans hf
        refine j_iload_n X dX12_standsAt_18 rfl rfl ?_
        obtain rfl := Option.some.inj hf
        exact j_iret X hr hlk rfl dX12_standsAt_19 hQ
      · replace hf := (if_neg c_9).symm.trans hf
        refine j_iinc2 (k := (1 : Int32)) X dX12_standsAt_12 (by decide) (by decide) rfl ?_
        refine j_goto (tgt := 2) X dX12_standsAt_15 (by decide) ?_
        refine j_keep [true, true, true] rfl ?_
        exact ih _ _ _ hf
  rw [f_X12_standsAt] at hf
  refine j_iconst (v := (0 : Int32)) X dX12_standsAt_0 (by decide) ?_
  refine j_istore_n2 X dX12_standsAt_1 rfl (by decide) rfl ?_
  refine j_keep [true, true, true] rfl ?_
  exact lab2 _ _ _ _ hf
def f_X12_feed_L38 : Nat → Mem → Int64 → Int32 → Int32 → Option (Mem × Int32)
  | 0, _, _, _, _ => none
  | n + 1, μ, x1, x3, x4 => (if x3 ≤ x4 then (if inb (2 : Int32) 387 = true then some (μ, (μ 1 (2 : Int32).toNatClampNeg)) else none) else (if inb (2 : Int32) 387 = true then (if inb ((303 : Int32) + (μ 1 (2 : Int32).toNatClampNeg)) 387 = true then bd (upA μ 1 (upd (μ 1) ((303 : Int32) + (μ 1 (2 : Int32).toNatClampNeg)).toNatClampNeg (((lshr x1 ((8 : Int32) * x4)) &&& (255 : Int64)).toInt32))) fun μ6 => ((if inb (2 : Int32) 387 = true then (if inb (2 : Int32) 387 = true then bd (upA μ6 1 (upd (μ6 1) (2 : Int32).toNatClampNeg ((μ6 1 (2 : Int32).toNatClampNeg) + (1 : Int32)))) fun μ9 => ((f_X12_feed_L38 n) μ9 x1 x3 (x4 + (1 : Int32))) else none) else none)) else none) else none))
def f_X12_feed (μ : Mem) (x1 : Int64) (x3 : Int32) : Option (Mem × Int32) := (f_X12_in x3 (1 : Int32) (8 : Int32)).bind fun q1 => ((if q1 = 0 then (f_X12_error μ (1 : Int32)).bind fun q11 => (some (q11.1, q11.2)) else (if inb (2 : Int32) 387 = true then (if ((μ 1 (2 : Int32).toNatClampNeg) + x3) ≤ (60 : Int32) then f_X12_feed_L38 fuel0 μ x1 x3 (0 : Int32) else (f_X12_error μ (4 : Int32)).bind fun q10 => (some (q10.1, q10.2))) else none)))
set_option maxHeartbeats 4000000 in
set_option maxRecDepth 20000 in
theorem c_X12_feed (E : Ev) (h : Nat → Nat) (g : Nat → Option Nat) {μ : Mem} {x1 : Int64} {x3 : Int32} {r : (Mem × Int32)} (hf : f_X12_feed μ x1 x3 = some r) : Ct E yX12_feed cX12_feed 5 (some .int) (rmOf 1 22) (wM E h g μ) (wM E h g r.1) [.ref (h 0), .long x1, .int x3] (some (.int r.2)) := by
  refine ct_start RX12 1 (by decide) rfl (Nat.le_of_ble_eq_true rfl) ?_
  intro p l e s m args below meth c A Q X hr hlk hQ
  have lab38 : ∀ (n : Nat) (μ : Mem) (x1 : Int64) (x3 : Int32) (x4 : Int32), f_X12_feed_L38 n μ x1 x3 x4 = some r → J p l e (rmOf 1 22) s m args below meth c E A 5 Q (wM E h g μ) [some (.ref (h 0)), some (.long x1), none, some (.int x3), some (.int x4)] 38 [] := by
    intro n
    induction n with
    | zero => intro μ x1 x3 x4 hf; cases (show none = some r from hf)
    | succ n ih =>
      intro μ x1 x3 x4 hf
      rw [f_X12_feed_L38] at hf
      refine j_iload X dX12_feed_38 rfl ?_
      refine j_iload_n X dX12_feed_40 rfl rfl ?_
      refine j_icmp_ge (tgt := 87) X dX12_feed_41 (by decide) (fun c_41 => ?_) (fun c_41 => ?_)
      · replace hf := (if_pos c_41).symm.trans hf
        refine j_aload_n X dX12_feed_87 rfl rfl ?_
        refine j_get (C := RX12) (T := TX12) (N := 21) X iX12 0 (wM_0 ..) rfl 0 (by decide) k_916 rfl rfl dX12_feed_88 ?_
        refine j_iconst (v := (2 : Int32)) X dX12_feed_91 (by decide) ?_
        obtain ⟨c3, hf⟩ := oi_in hf
        refine j_iald X 1 (wM_1 ..) c3 dX12_feed_92 ?_
        obtain rfl := Option.some.inj hf
        exact j_iret X hr hlk rfl dX12_feed_93 hQ
      · replace hf := (if_neg c_41).symm.trans hf
        refine j_aload_n X dX12_feed_44 rfl rfl ?_
        refine j_get (C := RX12) (T := TX12) (N := 21) X iX12 0 (wM_0 ..) rfl 0 (by decide) k_916 rfl rfl dX12_feed_45 ?_
        refine j_sipush (v := (303 : Int32)) X dX12_feed_48 (by decide) ?_
        refine j_aload_n X dX12_feed_51 rfl rfl ?_
        refine j_get (C := RX12) (T := TX12) (N := 21) X iX12 0 (wM_0 ..) rfl 0 (by decide) k_916 rfl rfl dX12_feed_52 ?_
        refine j_iconst (v := (2 : Int32)) X dX12_feed_55 (by decide) ?_
        obtain ⟨c4, hf⟩ := oi_in hf
        refine j_iald X 1 (wM_1 ..) c4 dX12_feed_56 ?_
        refine j_iadd X dX12_feed_57 ?_
        refine j_lload_n X dX12_feed_58 rfl rfl ?_
        refine j_bipush (v := (8 : Int32)) X dX12_feed_59 (by decide) ?_
        refine j_iload X dX12_feed_61 rfl ?_
        refine j_imul X dX12_feed_63 ?_
        refine j_lshr X dX12_feed_64 ?_
        refine j_ldc2 X k_992 dX12_feed_65 ?_
        refine j_land X dX12_feed_68 ?_
        refine j_l2i X dX12_feed_69 ?_
        obtain ⟨c5, hf⟩ := oi_in hf
        obtain ⟨μ6, e_μ6, hf⟩ := bd_e hf
        refine j_iast X 1 (wM_1 ..) c5 dX12_feed_70 (ws' := (wM E h g μ6)) (by rw [e_μ6]; exact wM_s1 ..) ?_
        refine j_aload_n X dX12_feed_71 rfl rfl ?_
        refine j_get (C := RX12) (T := TX12) (N := 21) X iX12 0 (wM_0 ..) rfl 0 (by decide) k_916 rfl rfl dX12_feed_72 ?_
        refine j_iconst (v := (2 : Int32)) X dX12_feed_75 (by decide) ?_
        refine j_dup2 X dX12_feed_76 rfl rfl ?_
        obtain ⟨c7, hf⟩ := oi_in hf
        refine j_iald X 1 (wM_1 ..) c7 dX12_feed_77 ?_
        refine j_iconst (v := (1 : Int32)) X dX12_feed_78 (by decide) ?_
        refine j_iadd X dX12_feed_79 ?_
        obtain ⟨c8, hf⟩ := oi_in hf
        obtain ⟨μ9, e_μ9, hf⟩ := bd_e hf
        refine j_iast X 1 (wM_1 ..) c8 dX12_feed_80 (ws' := (wM E h g μ9)) (by rw [e_μ9]; exact wM_s1 ..) ?_
        refine j_iinc4 (k := (1 : Int32)) X dX12_feed_81 (by decide) (by decide) rfl ?_
        refine j_goto (tgt := 38) X dX12_feed_84 (by decide) ?_
        refine j_keep [true, true, false, true, true] rfl ?_
        exact ih _ _ _ _ hf
  rw [f_X12_feed] at hf
  refine j_iload_n X dX12_feed_0 rfl rfl ?_
  refine j_iconst (v := (1 : Int32)) X dX12_feed_1 (by decide) ?_
  refine j_bipush (v := (8 : Int32)) X dX12_feed_2 (by decide) ?_
  obtain ⟨q1, g_q1, hf⟩ := ob_t hf
  refine j_callS X [] (c_X12_in E g_q1) rfl rfl rfl (ws' := (wM E h g μ)) rfl k_984 k_985 k_80 k_986 (⟨rfl, rfl⟩) hdS_X12_in ⟨Nat.le_of_ble_eq_true rfl, Nat.le_of_ble_eq_true rfl⟩ rfl (Nat.le_of_ble_eq_true rfl) rfl dX12_feed_4 ?_
  refine j_if_ne (tgt := 16) X dX12_feed_7 (by decide) (fun c_7 => ?_) (fun c_7 => ?_)
  · replace hf := (if_neg c_7).symm.trans hf
    refine j_aload_n X dX12_feed_16 rfl rfl ?_
    refine j_get (C := RX12) (T := TX12) (N := 21) X iX12 0 (wM_0 ..) rfl 0 (by decide) k_916 rfl rfl dX12_feed_17 ?_
    refine j_iconst (v := (2 : Int32)) X dX12_feed_20 (by decide) ?_
    obtain ⟨c2, hf⟩ := oi_in hf
    refine j_iald X 1 (wM_1 ..) c2 dX12_feed_21 ?_
    refine j_iload_n X dX12_feed_22 rfl rfl ?_
    refine j_iadd X dX12_feed_23 ?_
    refine j_bipush (v := (60 : Int32)) X dX12_feed_24 (by decide) ?_
    refine j_icmp_le (tgt := 35) X dX12_feed_26 (by decide) (fun c_26 => ?_) (fun c_26 => ?_)
    · replace hf := (if_pos c_26).symm.trans hf
      refine j_iconst (v := (0 : Int32)) X dX12_feed_35 (by decide) ?_
      refine j_istore4 X dX12_feed_36 (by decide) rfl ?_
      refine j_keep [true, true, false, true, true] rfl ?_
      exact lab38 _ _ _ _ _ hf
    · replace hf := (if_neg c_26).symm.trans hf
      refine j_aload_n X dX12_feed_29 rfl rfl ?_
      refine j_iconst (v := (4 : Int32)) X dX12_feed_30 (by decide) ?_
      obtain ⟨q10, g_q10, hf⟩ := ob_t hf
      refine j_callV X [0, 1, 2, 3, 4, 5, 6, 7, 8, 9, 10, 11, 12, 13] 0 (c_X12_error E h g g_q10) (cut0_c ..) rfl rfl (ws' := (wM E h g q10.1)) (cut0_w ..) (wM_0 ..) rfl k_987 k_989 k_24 k_80 k_990 (⟨rfl, rfl⟩) hdV_X12_error ⟨Nat.le_of_ble_eq_true rfl, Nat.le_of_ble_eq_true rfl⟩ rfl (Nat.le_of_ble_eq_true rfl) rfl dX12_feed_31 ?_
      obtain rfl := Option.some.inj hf
      exact j_iret X hr hlk rfl dX12_feed_34 hQ
  · replace hf := (if_pos c_7).symm.trans hf
    refine j_aload_n X dX12_feed_10 rfl rfl ?_
    refine j_iconst (v := (1 : Int32)) X dX12_feed_11 (by decide) ?_
    obtain ⟨q11, g_q11, hf⟩ := ob_t hf
    refine j_callV X [0, 1, 2, 3, 4, 5, 6, 7, 8, 9, 10, 11, 12, 13] 0 (c_X12_error E h g g_q11) (cut0_c ..) rfl rfl (ws' := (wM E h g q11.1)) (cut0_w ..) (wM_0 ..) rfl k_987 k_989 k_24 k_80 k_990 (⟨rfl, rfl⟩) hdV_X12_error ⟨Nat.le_of_ble_eq_true rfl, Nat.le_of_ble_eq_true rfl⟩ rfl (Nat.le_of_ble_eq_true rfl) rfl dX12_feed_12 ?_
    obtain rfl := Option.some.inj hf
    exact j_iret X hr hlk rfl dX12_feed_15 hQ
def f_X12_look (μ : Mem) : Option (Mem × Int32) := (if inb (2 : Int32) 387 = true then (if (μ 1 (2 : Int32).toNatClampNeg) ≤ (μ 0 5) then some (μ, (-1 : Int32)) else (if inb ((303 : Int32) + (μ 0 5)) 387 = true then some (μ, (μ 1 ((303 : Int32) + (μ 0 5)).toNatClampNeg)) else none)) else none)
set_option maxHeartbeats 4000000 in
set_option maxRecDepth 20000 in
theorem c_X12_look (E : Ev) (h : Nat → Nat) (g : Nat → Option Nat) {μ : Mem} {r : (Mem × Int32)} (hf : f_X12_look μ = some r) : Ct E yX12_look cX12_look 1 (some .int) (rmOf 0 0) (wM E h g μ) (wM E h g r.1) [.ref (h 0)] (some (.int r.2)) := by
  refine ct_start RX12 0 (by decide) rfl (Nat.le_of_ble_eq_true rfl) ?_
  intro p l e s m args below meth c A Q X hr hlk hQ
  rw [f_X12_look] at hf
  refine j_aload_n X dX12_look_0 rfl rfl ?_
  refine j_get (C := RX12) (T := TX12) (N := 21) X iX12 0 (wM_0 ..) rfl 5 (by decide) k_921 rfl rfl dX12_look_1 ?_
  refine j_aload_n X dX12_look_4 rfl rfl ?_
  refine j_get (C := RX12) (T := TX12) (N := 21) X iX12 0 (wM_0 ..) rfl 0 (by decide) k_916 rfl rfl dX12_look_5 ?_
  refine j_iconst (v := (2 : Int32)) X dX12_look_8 (by decide) ?_
  obtain ⟨c1, hf⟩ := oi_in hf
  refine j_iald X 1 (wM_1 ..) c1 dX12_look_9 ?_
  refine j_icmp_ge (tgt := 29) X dX12_look_10 (by decide) (fun c_10 => ?_) (fun c_10 => ?_)
  · replace hf := (if_pos c_10).symm.trans hf
    refine j_iconst (v := (-1 : Int32)) X dX12_look_29 (by decide) ?_
    obtain rfl := Option.some.inj hf
    exact j_iret X hr hlk rfl dX12_look_30 hQ
  · replace hf := (if_neg c_10).symm.trans hf
    refine j_aload_n X dX12_look_13 rfl rfl ?_
    refine j_get (C := RX12) (T := TX12) (N := 21) X iX12 0 (wM_0 ..) rfl 0 (by decide) k_916 rfl rfl dX12_look_14 ?_
    refine j_sipush (v := (303 : Int32)) X dX12_look_17 (by decide) ?_
    refine j_aload_n X dX12_look_20 rfl rfl ?_
    refine j_get (C := RX12) (T := TX12) (N := 21) X iX12 0 (wM_0 ..) rfl 5 (by decide) k_921 rfl rfl dX12_look_21 ?_
    refine j_iadd X dX12_look_24 ?_
    obtain ⟨c2, hf⟩ := oi_in hf
    refine j_iald X 1 (wM_1 ..) c2 dX12_look_25 ?_
    refine j_goto (tgt := 30) X dX12_look_26 (by decide) ?_
    obtain rfl := Option.some.inj hf
    exact j_iret X hr hlk rfl dX12_look_30 hQ
