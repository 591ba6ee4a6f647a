def f_X4_lastsFor_L2 : Nat → Mem → Int32 → Int32 → Option (Mem × Int32)
  | 0, _, _, _ => none
  | n + 1, μ, x1, x2 => (if (200 : Int32) < x2 then some (μ, (201 : Int32)) else (f_X4_passMinute μ).bind fun q1 => ((f_X4_stands q1.1 x1).bind fun q2 => ((if q2.2 = 0 then some (q2.1, x2) else (f_X4_lastsFor_L2 n) q2.1 x1 (x2 + (1 : Int32))))))
def f_X4_lastsFor (μ : Mem) (x1 : Int32) : Option (Mem × Int32) := f_X4_lastsFor_L2 fuel0 μ x1 (1 : Int32)
set_option maxHeartbeats 4000000 in
set_option maxRecDepth 20000 in
theorem c_X4_lastsFor (E : Ev) (h : Nat → Nat) (g : Nat → Option Nat) {μ : Mem} {x1 : Int32} {r : (Mem × Int32)} (hf : f_X4_lastsFor μ x1 = some r) : Ct E yX4_lastsFor cX4_lastsFor 3 (some .int) (rmOf 5 114) (wR E h g μ) (wR E h g r.1) [.ref (h 0), .int x1] (some (.int r.2)) := by
  refine ct_start RX4 1 (by decide) rfl (Nat.le_of_ble_eq_true rfl) ?_
  intro p l e s m args below meth c A Q X hr hlk hQ
  have lab2 : ∀ (n : Nat) (μ : Mem) (x1 : Int32) (x2 : Int32), f_X4_lastsFor_L2 n μ x1 x2 = some r → J p l e (rmOf 5 114) s m args below meth c E A 3 Q (wR E h g μ) [some (.ref (h 0)), some (.int x1), some (.int x2)] 2 [] := by
    intro n
    induction n with
    | zero => intro μ x1 x2 hf; cases (show none = some r from hf)
    | succ n ih =>
      intro μ x1 x2 hf
      rw [f_X4_lastsFor_L2] at hf
      refine j_iload_n X dX4_lastsFor_2 rfl rfl ?_
      refine j_sipush (v := (200 : Int32)) X dX4_lastsFor_3 (by decide) ?_
      refine j_icmp_gt (tgt := 30) X dX4_lastsFor_6 (by decide) (fun c_6 => ?_) (fun c_6 => ?_)
      · replace hf := (if_pos c_6).symm.trans hf
        refine j_sipush (v := (201 : Int32)) X dX4_lastsFor_30 (by decide) ?_
        obtain rfl := Option.some.inj hf
        exact j_iret X hr hlk rfl dX4_lastsFor_33 hQ
      · replace hf := (if_neg c_6).symm.trans hf
        refine j_aload_n X dX4_lastsFor_9 rfl rfl ?_
        obtain ⟨q1, g_q1, hf⟩ := ob_t hf
        refine j_callV X [0, 1, 2, 3, 4, 5, 6, 7, 8, 9, 10, 11, 12, 13, 14, 15, 16, 17, 18, 19, 20, 21] 0 (c_X4_passMinute E h g g_q1) (cut_wR_wR_c ..) rfl rfl (ws' := (wR E h g q1.1)) (cut_wR_wR_w ..) (wR_0 ..) rfl k_593 k_594 k_595 k_78 k_596 (⟨rfl, rfl⟩) hdV_X4_passMinute ⟨Nat.le_of_ble_eq_true rfl, Nat.le_of_ble_eq_true rfl⟩ rfl (Nat.le_of_ble_eq_true rfl) rfl dX4_lastsFor_10 ?_
        refine j_pop X dX4_lastsFor_13 rfl ?_
        refine j_aload_n X dX4_lastsFor_14 rfl rfl ?_
        refine j_iload_n X dX4_lastsFor_15 rfl rfl ?_
        obtain ⟨q2, g_q2, hf⟩ := ob_t hf
        refine j_callV X [0, 1, 2, 3, 4, 5, 6, 7, 8, 9, 10, 11, 12, 13, 14, 15, 16, 17, 18, 19, 20, 21] 0 (c_X4_stands E h g g_q2) (cut_wR_wR_c ..) rfl rfl (ws' := (wR E h g q2.1)) (cut_wR_wR_w ..) (wR_0 ..) rfl k_466 k_455 k_456 k_78 k_457 (⟨rfl, rfl⟩) hdV_X4_stands ⟨Nat.le_of_ble_eq_true rfl, Nat.le_of_ble_eq_true rfl⟩ rfl (Nat.le_of_ble_eq_true rfl) rfl dX4_lastsFor_16 ?_
        refine j_if_ne (tgt := 24) X dX4_lastsFor_19 (by decide) (fun c_19 => ?_) (fun c_19 => ?_)
        · replace hf := (if_neg c_19).symm.trans hf
          refine j_iinc2 (k := (1 : Int32)) X dX4_lastsFor_24 (by decide) (by decide) rfl ?_
          refine j_goto (tgt := 2) X dX4_lastsFor_27 (by decide) ?_
          refine j_keep [true, true, true] rfl ?_
          exact ih _ _ _ hf
        · replace hf := (if_pos c_19).symm.trans hf
          refine j_iload_n X dX4_lastsFor_22 rfl rfl ?_
          obtain rfl := Option.some.inj hf
          exact j_iret X hr hlk rfl dX4_lastsFor_23 hQ
  rw [f_X4_lastsFor] at hf
  refine j_iconst (v := (1 : Int32)) X dX4_lastsFor_0 (by decide) ?_
  refine j_istore_n2 X dX4_lastsFor_1 rfl (by decide) rfl ?_
  refine j_keep [true, true, true] rfl ?_
  exact lab2 _ _ _ _ hf
def f_X4_copyFrom (μ : Mem) : Option Mem := (if inc (0 : Int32) (0 : Int32) (9 : Int32) 9 9 = true then bd (upA μ 1 (va_cpy (μ 7) (μ 1) (0 : Int32).toNatClampNeg (0 : Int32).toNatClampNeg (9 : Int32).toNatClampNeg)) fun μ2 => ((if inc (0 : Int32) (0 : Int32) (9 : Int32) 9 9 = true then bd (upA μ2 2 (va_cpy (μ2 8) (μ2 2) (0 : Int32).toNatClampNeg (0 : Int32).toNatClampNeg (9 : Int32).toNatClampNeg)) fun μ4 => ((if inc (0 : Int32) (0 : Int32) (9 : Int32) 9 9 = true then bd (upA μ4 3 (va_cpy (μ4 9) (μ4 3) (0 : Int32).toNatClampNeg (0 : Int32).toNatClampNeg (9 : Int32).toNatClampNeg)) fun μ6 => ((if inc (0 : Int32) (0 : Int32) (9 : Int32) 9 9 = true then bd (upA μ6 4 (va_cpy (μ6 10) (μ6 4) (0 : Int32).toNatClampNeg (0 : Int32).toNatClampNeg (9 : Int32).toNatClampNeg)) fun μ8 => ((if inc (0 : Int32) (0 : Int32) (9 : Int32) 9 9 = true then bd (upA μ8 5 (va_cpy (μ8 11) (μ8 5) (0 : Int32).toNatClampNeg (0 : Int32).toNatClampNeg (9 : Int32).toNatClampNeg)) fun μ10 => (bd (upA μ10 0 (upd (μ10 0) 5 (μ10 6 5))) fun μ11 => (bd (upA μ11 0 (upd (μ11 0) 6 (μ11 6 6))) fun μ12 => (some μ12))) else none)) else none)) else none)) else none)) else none)
set_option maxHeartbeats 4000000 in
set_option maxRecDepth 20000 in
theorem c_X4_copyFrom (E : Ev) (h : Nat → Nat) (g : Nat → Option Nat) {μ : Mem} {r : Mem} (hf : f_X4_copyFrom μ = some r) : Ct E yX4_copyFrom cX4_copyFrom 2 none (rmOf 1 43) (wRC E h g μ) (wRC E h g r) [.ref (h 0), .ref (h 6)] none := by
  refine ct_start RX4 0 (by decide) rfl (Nat.le_of_ble_eq_true rfl) ?_
  intro p l e s m args below meth c A Q X hr hlk hQ
  rw [f_X4_copyFrom] at hf
  refine j_aload_n X dX4_copyFrom_0 rfl rfl ?_
  refine j_get (C := RX4) (T := TX4) (N := 10) X iX4 6 (wRC_6 ..) rfl 0 (by decide) k_189 rfl rfl dX4_copyFrom_1 ?_
  refine j_iconst (v := (0 : Int32)) X dX4_copyFrom_4 (by decide) ?_
  refine j_aload_n X dX4_copyFrom_5 rfl rfl ?_
  refine j_get (C := RX4) (T := TX4) (N := 10) X iX4 0 (wRC_0 ..) rfl 0 (by decide) k_189 rfl rfl dX4_copyFrom_6 ?_
  refine j_iconst (v := (0 : Int32)) X dX4_copyFrom_9 (by decide) ?_
  refine j_bipush (v := (9 : Int32)) X dX4_copyFrom_10 (by decide) ?_
  obtain ⟨c1, hf⟩ := oi_cp hf
  obtain ⟨μ2, e_μ2, hf⟩ := bd_e hf
  refine j_copyi X k_642 k_644 k_643 k_82 7 1 (wRC_7 ..) (wRC_1 ..) c1.1 c1.2.1 c1.2.2.1 c1.2.2.2.1 c1.2.2.2.2 (Nat.le_of_ble_eq_true rfl) (Nat.le_of_ble_eq_true rfl) dX4_copyFrom_12 (ws' := (wRC E h g μ2)) (by rw [e_μ2]; exact wRC_s1 ..) ?_
  refine j_aload_n X dX4_copyFrom_15 rfl rfl ?_
  refine j_get (C := RX4) (T := TX4) (N := 10) X iX4 6 (wRC_6 ..) rfl 1 (by decide) k_191 rfl rfl dX4_copyFrom_16 ?_
  refine j_iconst (v := (0 : Int32)) X dX4_copyFrom_19 (by decide) ?_
  refine j_aload_n X dX4_copyFrom_20 rfl rfl ?_
  refine j_get (C := RX4) (T := TX4) (N := 10) X iX4 0 (wRC_0 ..) rfl 1 (by decide) k_191 rfl rfl dX4_copyFrom_21 ?_
  refine j_iconst (v := (0 : Int32)) X dX4_copyFrom_24 (by decide) ?_
  refine j_bipush (v := (9 : Int32)) X dX4_copyFrom_25 (by decide) ?_
  obtain ⟨c3, hf⟩ := oi_cp hf
  obtain ⟨μ4, e_μ4, hf⟩ := bd_e hf
  refine j_copyi X k_642 k_644 k_643 k_82 8 2 (wRC_8 ..) (wRC_2 ..) c3.1 c3.2.1 c3.2.2.1 c3.2.2.2.1 c3.2.2.2.2 (Nat.le_of_ble_eq_true rfl) (Nat.le_of_ble_eq_true rfl) dX4_copyFrom_27 (ws' := (wRC E h g μ4)) (by rw [e_μ4]; exact wRC_s2 ..) ?_
  refine j_aload_n X dX4_copyFrom_30 rfl rfl ?_
  refine j_get (C := RX4) (T := TX4) (N := 10) X iX4 6 (wRC_6 ..) rfl 2 (by decide) k_196 rfl rfl dX4_copyFrom_31 ?_
  refine j_iconst (v := (0 : Int32)) X dX4_copyFrom_34 (by decide) ?_
  refine j_aload_n X dX4_copyFrom_35 rfl rfl ?_
  refine j_get (C := RX4) (T := TX4) (N := 10) X iX4 0 (wRC_0 ..) rfl 2 (by decide) k_196 rfl rfl dX4_copyFrom_36 ?_
  refine j_iconst (v := (0 : Int32)) X dX4_copyFrom_39 (by decide) ?_
  refine j_bipush (v := (9 : Int32)) X dX4_copyFrom_40 (by decide) ?_
  obtain ⟨c5, hf⟩ := oi_cp hf
  obtain ⟨μ6, e_μ6, hf⟩ := bd_e hf
  refine j_copyi X k_642 k_644 k_643 k_82 9 3 (wRC_9 ..) (wRC_3 ..) c5.1 c5.2.1 c5.2.2.1 c5.2.2.2.1 c5.2.2.2.2 (Nat.le_of_ble_eq_true rfl) (Nat.le_of_ble_eq_true rfl) dX4_copyFrom_42 (ws' := (wRC E h g μ6)) (by rw [e_μ6]; exact wRC_s3 ..) ?_
  refine j_aload_n X dX4_copyFrom_45 rfl rfl ?_
  refine j_get (C := RX4) (T := TX4) (N := 10) X iX4 6 (wRC_6 ..) rfl 3 (by decide) k_198 rfl rfl dX4_copyFrom_46 ?_
  refine j_iconst (v := (0 : Int32)) X dX4_copyFrom_49 (by decide) ?_
  refine j_aload_n X dX4_copyFrom_50 rfl rfl ?_
  refine j_get (C := RX4) (T := TX4) (N := 10) X iX4 0 (wRC_0 ..) rfl 3 (by decide) k_198 rfl rfl dX4_copyFrom_51 ?_
  refine j_iconst (v := (0 : Int32)) X dX4_copyFrom_54 (by decide) ?_
  refine j_bipush (v := (9 : Int32)) X dX4_copyFrom_55 (by decide) ?_
  obtain ⟨c7, hf⟩ := oi_cp hf
  obtain ⟨μ8, e_μ8, hf⟩ := bd_e hf
  refine j_copyi X k_642 k_644 k_643 k_82 10 4 (wRC_10 ..) (wRC_4 ..) c7.1 c7.2.1 c7.2.2.1 c7.2.2.2.1 c7.2.2.2.2 (Nat.le_of_ble_eq_true rfl) (Nat.le_of_ble_eq_true rfl) dX4_copyFrom_57 (ws' := (wRC E h g μ8)) (by rw [e_μ8]; exact wRC_s4 ..) ?_
  refine j_aload_n X dX4_copyFrom_60 rfl rfl ?_
  refine j_get (C := RX4) (T := TX4) (N := 10) X iX4 6 (wRC_6 ..) rfl 4 (by decide) k_201 rfl rfl dX4_copyFrom_61 ?_
  refine j_iconst (v := (0 : Int32)) X dX4_copyFrom_64 (by decide) ?_
  refine j_aload_n X dX4_copyFrom_65 rfl rfl ?_
  refine j_get (C := RX4) (T := TX4) (N := 10) X iX4 0 (wRC_0 ..) rfl 4 (by decide) k_201 rfl rfl dX4_copyFrom_66 ?_
  refine j_iconst (v := (0 : Int32)) X dX4_copyFrom_69 (by decide) ?_
  refine j_bipush (v := (9 : Int32)) X dX4_copyFrom_70 (by decide) ?_
  obtain ⟨c9, hf⟩ := oi_cp hf
  obtain ⟨μ10, e_μ10, hf⟩ := bd_e hf
  refine j_copyi X k_642 k_644 k_643 k_82 11 5 (wRC_11 ..) (wRC_5 ..) c9.1 c9.2.1 c9.2.2.1 c9.2.2.2.1 c9.2.2.2.2 (Nat.le_of_ble_eq_true rfl) (Nat.le_of_ble_eq_true rfl) dX4_copyFrom_72 (ws' := (wRC E h g μ10)) (by rw [e_μ10]; exact wRC_s5 ..) ?_
  refine j_aload_n X dX4_copyFrom_75 rfl rfl ?_
  refine j_aload_n X dX4_copyFrom_76 rfl rfl ?_
  refine j_get (C := RX4) (T := TX4) (N := 10) X iX4 6 (wRC_6 ..) rfl 5 (by decide) k_203 rfl rfl dX4_copyFrom_77 ?_
  obtain ⟨μ11, e_μ11, hf⟩ := bd_e hf
  refine j_put (C := RX4) (T := TX4) (N := 10) X iX4 0 (wRC_0 ..) rfl 5 (by decide) k_203 rfl tyX4 tyX4_ok nmX4 rfl (ty := .int) (by decide +kernel) rfl rfl (Nat.le_of_ble_eq_true rfl) dX4_copyFrom_80 (ws' := (wRC E h g μ11)) (by rw [e_μ11]; exact wRC_f0_5 ..) ?_
  refine j_aload_n X dX4_copyFrom_83 rfl rfl ?_
  refine j_aload_n X dX4_copyFrom_84 rfl rfl ?_
  refine j_get (C := RX4) (T := TX4) (N := 10) X iX4 6 (wRC_6 ..) rfl 6 (by decide) k_207 rfl rfl dX4_copyFrom_85 ?_
  obtain ⟨μ12, e_μ12, hf⟩ := bd_e hf
  refine j_put (C := RX4) (T := TX4) (N := 10) X iX4 0 (wRC_0 ..) rfl 6 (by decide) k_207 rfl tyX4 tyX4_ok nmX4 rfl (ty := .int) (by decide +kernel) rfl rfl (Nat.le_of_ble_eq_true rfl) dX4_copyFrom_88 (ws' := (wRC E h g μ12)) (by rw [e_μ12]; exact wRC_f0_6 ..) ?_
  obtain rfl := Option.some.inj hf
  exact j_vret X hr hlk dX4_copyFrom_91 hQ
