def f_X4_lastsFor_L2 : Nat → Mem → Int32 → Int32 → Option (Mem × Int32)
  | 0, _, _, _ => none
  | n + 1, μ, x1, x2 => (if (200 : Int32) < x2 then some (μ, (201 : Int32)) else (f_X4_passMinute μ).bind fun q1 => ((f_X4_stands q1.1 x1).bind fun q2 => ((if q2.2 = 0 then some (q2.1, x2) else (f_X4_lastsFor_L2 n) q2.1 x1 (x2 + (1 : Int32))))))
def f_X4_lastsFor (μ : Mem) (x1 : Int32) : Option (Mem × Int32) := f_X4_lastsFor_L2 fuel0 μ x1 (1 : Int32)
set_option maxHeartbeats 4000000 in
set_option maxRecDepth 20000 in
theorem c_X4_lastsFor (E : Ev) (h : Nat → Nat) (g : Nat → Option Nat) {μ : Mem} {x1 : Int32} {r : (Mem × Int32)} (hf : f_X4_lastsFor μ x1 = some r) : Ct E yX4_lastsFor cX4_lastsFor 3 (some .int) (rmOf 5 114) (wR E h g μ) (wR E h g r.1) [.ref (h 0), .int x1] (some (.int r.2)) := by
  refine ct_start RX4 1 (by decide) rfl (Nat.le_of_ble_eq_true rfl) ?_
  intro p l e s m args below meth c A Q X hr hlk hQ
  have lab2 : ∀ (n : Nat) (μ : Mem) (x1 : Int32) (x2 : Int32), f_X4_lastsFor_L2 n μ x1 x2 = some r → J p l e (rmOf 5 114) s m args below meth c E A 3 Q (wR E h g μ) [some (.ref (h 0)), some (.int x1), some (.int x2)] 2 [] := by
    intro n
    induction n with
    | zero => intro μ x1 x2 hf; cases (show none = some r from hf)
    | succ n ih =>
      intro μ x1 x2 hf
      rw [f_X4_lastsFor_L2] at hf
      refine j_iload_n X dX4_lastsFor_2 rfl rfl ?_
      refine j_sipush (v := (200 : Int32)) X dX4_lastsFor_3 (by decide) ?_
      refine j_icmp_gt (tgt := 30) X dX4_lastsFor_6 (by decide) (fun c_6 => ?_) (fun c_6 => ?_)
      · replace hf := (if_pos c_6).symm.trans hf
        refine j_sipush (v := (201 : Int32)) X dX4_lastsFor_30 (by decide) ?_
        obtain rfl := Option.some.inj hf
        exact j_iret X hr hlk rfl dX4_lastsFor_33 hQ
      · replace hf := (if_neg c_6).symm.trans hf
        refine j_aload_n X dX4_lastsFor_9 rfl rfl ?_
        obtain ⟨q1, g_q1, hf⟩ := ob_t hf
        refine j_callV X [0, 1, 2, 3, 4, 5, 6, 7, 8, 9, 10, 11, 12, 13, 14, 15, 16, 17, 18, 19, 20, 21] 0 (c_X4_passMinute E h g g_q1) (cut_wR_wR_c ..) rfl rfl (ws' := (wR E h g q1.1)) (cut_wR_wR_w ..) (wR_0 ..) rfl k_593 k_594 k_595 k_78 k_596 (⟨rfl, rfl⟩) hdV_X4_passMinute ⟨Nat.le_of_ble_eq_true rfl, Nat.le_of_ble_eq_true rfl⟩ rfl (Nat.le_of_ble_eq_true rfl) rfl dX4_lastsFor_10 ?_
        refine j_pop X dX4_lastsFor_13 rfl ?_
        refine j_aload_n X dX4_lastsFor_14 rfl rfl ?_
        refine j_iload_n X dX4_lastsFor_15 rfl rfl ?_
        obtain ⟨q2, g_q2, hf⟩ := ob_t hf
        refine j_callV X [0, 1, 2, 3, 4, 5, 6, 7, 8, 9, 10, 11, 12, 13, 14, 15, 16, 17, 18, 19, 20, 21] 0 (c_X4_stands E h g g_q2) (cut_wR_wR_c ..) rfl rfl (ws' := (wR E h g q2.1)) (cut_wR_wR_w ..) (wR_0 ..) rfl k_466 k_455 k_456 k_78 k_457 (⟨rfl, rfl⟩) hdV_X4_stands ⟨Nat.le_of_ble_eq_true rfl, Nat.le_of_ble_eq_true rfl⟩ rfl (Nat.le_of_ble_eq_true rfl) rfl dX4_lastsFor_16 ?_
        refine j_if_ne (tgt := 24) X dX4_lastsFor_19 (by decide) (fun c_19 => ?_) (fun c_19 => ?_)
        · replace hf := (if_neg c_19).symm.trans hf
          refine j_iinc2 (k := (1 : Int32)) X dX4_lastsFor_24 (by decide) (by decide) rfl ?_
          refine j_goto (tgt := 2) X dX4_lastsFor_27 (by decide) ?_
          refine j_keep [true, true, true] rfl ?_
          exact ih _ _ _ hf
        · replace hf := (if_pos c_19).symm.trans hf
          refine j_iload_n X dX4_lastsFor_22 rfl rfl ?_
          obtain rfl := Option.some.inj hf
          exact j_iret X hr hlk rfl dX4_lastsFor_23 hQ
  rw [f_X4_lastsFor] at hf
  refine j_iconst (v := (1 : Int32)) X dX4_lastsFor_0 (by decide) ?_
  refine j_istore_n2 X dX4_lastsFor_1 rfl (by decide) rfl ?_
  refine j_keep [true, true, true] rfl ?_
  exact lab2 _ _ _ _ hf
def f_X4_copyFrom (μ : Mem) : Option Mem := (if inc (0 : Int32) (0 : Int32) (9 : Int32) 9 9 = true then bd (upA μ 1 (va_cpy (μ 7) (μ 1) (0 : Int32).toNatClampNeg (0 : Int32).toNatClampNeg (9 : Int32).toNatClampNeg)) fun μ2 => ((if inc (0 : Int32) (0 : Int32) (9 : Int32) 9 9 = true then bd (upA μ2 2 (va_cpy (μ2 8) (μ2 2) (0 : Int32).toNatClampNeg (0 : Int32).toNatClampNeg (9 : Int32).toNatClampNeg)) fun μ4 => ((if inc (0 : Int32) (0 : Int32) (9 : Int32) 9 9 = true then bd (upA μ4 3 (va_cpy (μ4 9) (μ4 3) (0 : Int32).toNatClampNeg (0 : Int32).toNatClampNeg (9 : Int32).toNatClampNeg)) fun μ6 => ((if inc (0 : Int32) (0 : Int32) (9 : Int32) 9 9 = true then bd (upA μ6 4 (va_cpy (μ6 10) (μ6 4) (0 : Int32).toNatClampNeg (0 : Int32).toNatClampNeg (9 : Int32).toNatClampNeg)) fun μ8 => ((if inc (0 : Int32) (0 : Int32) (9 : Int32) 9 9 = true then bd (upA μ8 5 (va_cpy (μ8 11) (μ8 5) (0 : Int32).toNatClampNeg (0 : Int32).toNatClampNeg (9 : Int32).toNatClampNeg)) fun μ10 => (bd (upA μ10 0 (upd (μ10 0) 5 (μ10 6 5))) fun μ11 => (bd (upA μ11 0 (upd (μ11 0) 6 (μ11 6 6))) fun μ12 => (some μ12))) else none)) else none)) else none)) else none)) else none)
set_option maxHeartbeats 4000000 in
set_option maxRecDepth 20000 in
theorem c_X4_copyFrom (E : Ev) (h : Nat → Nat) (g : Nat → Option Nat) {μ : Mem} {r : Mem} (hf : f_X4_copyFrom μ = some r) : Ct E yX4_copyFrom cX4_copyFrom 2 none (rmOf 1 43) (wRC E h g μ) (wRC E h g r) [.ref (h 0), .ref (h 6)] none := by
  refine ct_start RX4 0 (by decide) rfl (Nat.le_of_ble_eq_true rfl) ?_
  intro p l e s m args below meth c A Q X hr hlk hQ
  rw [f_X4_copyFrom] at hf
  refine j_aload_n X dX4_copyFrom_0 rfl rfl ?_
  refine j_get (C := RX4) (T := TX4) (N := 10) X iX4 6 (wRC_6 ..) rfl 0 (by decide) k_189 rfl rfl dX4_copyFrom_1 ?_
  refine j_iconst (v := (0 : Int32)) X dX4_copyFrom_4 (by decide) ?_
  refine j_aload_n X dX4_copyFrom_5 rfl rfl ?_
  refine j_get (C := RX4) (T := TX4) (N := 10) X iX4 0 (wRC_0 ..) rfl 0 (by decide) k_189 rfl rfl dX4_copyFrom_6 ?_
  refine j_iconst (v := (0 : Int32)) X dX4_copyFrom_9 (by decide) ?_
  refine j_bipush (v := (9 : Int32)) X dX4_copyFrom_10 (by decide) ?_
  obtain ⟨c1, hf⟩ := oi_cp hf
  obtain ⟨μ2, e_μ2, hf⟩ := bd_e hf
  refine j_copyi X k_642 k_644 k_643 k_82 7 1 (wRC_7 ..) (wRC_1 ..) c1.1 c1.2.1 c1.2.2.1 c1.2.2.2.1 c1.2.2.2.2 (Nat.le_of_ble_eq_true rfl) (Nat.le_of_ble_eq_true rfl) dX4_copyFrom_12 (ws' := (wRC E h g μ2)) (by rw [e_μ2]; exact wRC_s1 ..) ?_
  refine j_aload_n X dX4_copyFrom_15 rfl rfl ?_
  refine j_get (C := RX4) (T := TX4) (N := 10) X iX4 6 (wRC_6 ..) rfl 1 (by decide) k_191 rfl rfl dX4_copyFrom_16 ?_
  refine j_iconst (v := (0 : Int32)) X dX4_copyFrom_19 (by decide) ?_
  refine j_aload_n X dX4_copyFrom_20 rfl rfl ?_
  refine j_get (C := RX4) (T := TX4) (N := 10) X iX4 0 (wRC_0 ..) rfl 1 (by decide) k_191 rfl rfl dX4_copyFrom_21 ?_
  refine j_iconst (v := (0 : Int32)) X dX4_copyFrom_24 (by decide) ?_
  refine j_bipush (v := (9 : Int32)) X dX4_copyFrom_25 (by decide) ?_
  obtain ⟨c3, hf⟩ := oi_cp hf
  obtain ⟨μ4, e_μ4, hf⟩ := bd_e hf
  refine j_copyi X k_642 k_644 k_643 k_82 8 2 (wRC_8 ..) (wRC_2 ..) c3.1 c3.2.1 c3.2.2.1 c3.2.2.2.1 c3.2.2.2.2 (Nat.le_of_ble_eq_true rfl) (Nat.le_of_ble_eq_true rfl) dX4_copyFrom_27 (ws' := (wRC E h g μ4)) (by rw [e_μ4]; exact wRC_s2 ..) ?_
  refine j_aload_n X dX4_copyFrom_30 rfl rfl ?_
  refine j_get (C := RX4) (T := TX4) (N := 10) X iX4 6 (wRC_6 ..) rfl 2 (by decide) k_196 rfl rfl dX4_copyFrom_31 ?_
  refine j_iconst (v := (0 : Int32)) X dX4_copyFrom_34 (by decide) ?_
  refine j_aload_n X dX4_copyFrom_35 rfl rfl ?_
  refine j_get (C := RX4) (T := TX4) (N := 10) X iX4 0 (wRC_0 ..) rfl 2 (by decide) k_196 rfl rfl dX4_copyFrom_36 ?_
  refine j_iconst (v := (0 : Int32)) X dX4_copyFrom_39 (by decide) ?_
  refine j_bipush (v := (9 : Int32)) X dX4_copyFrom_40 (by decide) ?_
  obtain ⟨c5, hf⟩ := oi_cp hf
  obtain ⟨μ6, e_μ6, hf⟩ := bd_e hf
  refine j_copyi X k_642 k_644 k_643 k_82 9 3 (wRC_9 ..) (wRC_3 ..) c5.1 c5.2.1 c5.2.2.1 c5.2.2.2.1 c5.2.2.2.2 (Nat.le_of_ble_eq_true rfl) (Nat.le_of_ble_eq_true rfl) dX4_copyFrom_42 (ws' := (wRC E h g μ6)) (by rw [e_μ6]; exact wRC_s3 ..) ?_
  refine j_aload_n X dX4_copyFrom_45 rfl rfl ?_
  refine j_get (C := RX4) (T := TX4) (N := 10) X iX4 6 (wRC_6 ..) rfl 3 (by decide) k_198 rfl rfl dX4_copyFrom_46 ?_
  refine j_iconst (v := (0 : Int32)) X dX4_copyFrom_49 (by decide) ?_
  refine j_aload_n X dX4_copyFrom_50 rfl rfl ?_
  refine j_get (C := RX4) (T := TX4) (N := 10) X iX4 0 (wRC_0 ..) rfl 3 (by decide) k_198 rfl rfl dX4_copyFrom_51 ?_
  refine j_iconst (v := (0 : Int32)) X dX4_copyFrom_54 (by decide) ?_
  refine j_bipush (v := (9 : Int32)) X dX4_copyFrom_55 (by decide) ?_
  obtain ⟨c7, hf⟩ := oi_cp hf
  obtain ⟨μ8, e_μ8, hf⟩ := bd_e hf
  refine j_copyi X k_642 k_644 k_643 k_82 10 4 (wRC_10 ..) (wRC_4 ..) c7.1 c7.2.1 c7.2.2.1 c7.2.2.2.1 c7.2.2.2.2 (Nat.le_of_ble_eq_true rfl) (Nat.le_of_ble_eq_true rfl) dX4_copyFrom_57 (ws' := (wRC E h g μ8)) (by rw [e_μ8]; exact wRC_s4 ..) ?_
  refine j_aload_n X dX4_copyFrom_60 rfl rfl ?_
  refine j_get (C := RX4) (T := TX4) (N := 10) X iX4 6 (wRC_6 ..) rfl 4 (by decide) k_201 rfl rfl dX4_copyFrom_61 ?_
  refine j_iconst (v := (0 : Int32)) X dX4_copyFrom_64 (by decide) ?_
  refine j_aload_n X dX4_copyFrom_65 rfl rfl ?_
  refine j_get (C := RX4) (T := TX4) (N := 10) X iX4 0 (wRC_0 ..) rfl 4 (by decide) k_201 rfl rfl dX4_copyFrom_66 ?_
  refine j_iconst (v := (0 : Int32)) X dX4_copyFrom_69 (by decide) ?_
  refine j_bipush (v := (9 : Int32)) X dX4_copyFrom_70 (by decide) ?_
  obtain ⟨c9, hf⟩ := oi_cp hf
  obtain ⟨μ10, e_μ10, hf⟩ := bd_e hf
  refine j_copyi X k_642 k_644 k_643 k_82 11 5 (wRC_11 ..) (wRC_5 ..) c9.1 c9.2.1 c9.2.2.1 c9.2.2.2.1 c9.2.2.2.2 (Nat.le_of_ble_eq_true rfl) (Nat.le_of_ble_eq_true rfl) dX4_copyFrom_72 (ws' := (wRC E h g μ10)) (by rw [e_μ10]; exact wRC_s5 ..) ?_
  refine j_aload_n X dX4_copyFrom_75 rfl rfl ?_
  refine j_aload_n X dX4_copyFrom_76 rfl rfl ?_
  refine j_get (C := RX4) (T := TX4) (N := 10) X iX4 6 (wRC_6 ..) rfl 5 (by decide) k_203 rfl rfl dX4_copyFrom_77 ?_
  obtain ⟨μ11, e_μ11, hf⟩ := bd_e hf
  refine j_put (C := RX4) (T := TX4) (N := 10) X iX4 0 (wRC_0 ..) rfl 5 (by decide) k_203 rfl tyX4 tyX4_ok nmX4 rfl (ty := .int) (by decide +kernel) rfl rfl (Nat.le_of_ble_eq_true rfl) dX4_copyFrom_80 (ws' := (wRC E h g μ11)) (by rw [e_μ11]; exact wRC_f0_5 ..) ?_
  refine j_aload_n X dX4_copyFrom_83 rfl rfl ?_
  refine j_aload_n X dX4_copyFrom_84 rfl rfl ?_
  refine j_get (C := RX4) (T := TX4) (N := 10) X iX4 6 (wRC_6 ..) rfl 6 (by decide) k_207 rfl rfl dX4_copyFrom_85 ?_
  obtain ⟨μ12, e_μ12, hf⟩ := bd_e hf
  refine j_put (C := RX4) (T := TX4) (N := 10) X iX4 0 (wRC_0 ..) rfl 6 (by decide) k_207 rfl tyX4 tyX4_ok nmX4 rfl (ty := .int) (by decide +kernel) rfl rfl (Nat.le_of_ble_eq_true rfl) dX4_copyFrom_88 (ws' := (wRC E h g μ12)) (by rw [e_μ12]; exact wRC_f0_6 ..) ?_
  obtain rfl := Option.some.inj hf
  exact j_vret X hr hlk dX4_copyFrom_91 hQ
def f_X1_read (μ : Mem) (x2 : Int32) : Option (Mem × Int32 × Bool) := bd (upA μ 0 (upd (μ 0) 7 (if (60 : Int32) < x2 then (60 : Int32) else x2))) fun μ1 => (bd (upA μ1 0 (upd (μ1 0) 8 (0 : Int32))) fun μ2 => (bd (upA μ2 0 (upd (μ2 0) 5 (0 : Int32))) fun μ3 => ((f_X1_readEither μ3 (0 : Int32)).bind fun q4 => ((if q4.2 = 0 then some (q4.1, (q4.1 0 8), false) else (if (q4.1 0 7) ≤ (q4.1 0 8) then bd (upA q4.1 0 (upd (q4.1 0) 3 (q4.1 0 5))) fun μ5 => (some (μ5, (-1 : Int32), true)) else some (q4.1, (q4.1 0 8), false)))))))
set_option maxHeartbeats 4000000 in
set_option maxRecDepth 20000 in
theorem c_X1_read (E : Ev) (h : Nat → Nat) (g : Nat → Option Nat) {μ : Mem} {x2 : Int32} {r : (Mem × Int32 × Bool)} (hf : f_X1_read μ x2 = some r) : Ct E yX1_read cX1_read 4 (some .int) (rmOf 193 4055) (wB0 E h g μ) (if r.2.2 = true then wBs E h g r.1 else wB E h g r.1) [.ref (h 0), .ref (h 4), .int x2] (some (.int r.2.1)) := by
  refine ct_start RX1 1 (by decide) rfl (Nat.le_of_ble_eq_true rfl) ?_
  intro p l e s m args below meth c A Q X hr hlk hQ
  rw [f_X1_read] at hf
  refine j_aload_n X dX1_read_0 rfl rfl ?_
  refine j_aload_n X dX1_read_1 rfl rfl ?_
  refine j_put (C := RX1) (T := TX1) (N := 9) X iX1 0 (wB0_0 ..) rfl 6 (by decide) k_160 rfl tyX1 tyX1_ok nmX1 rfl (ty := .array .byte) (by decide +kernel) rfl rfl (Nat.le_of_ble_eq_true rfl) dX1_read_2 (ws' := (wB E h g μ)) rfl ?_
  refine j_aload_n X dX1_read_5 rfl rfl ?_
  refine j_iload_n X dX1_read_6 rfl rfl ?_
  refine j_aload_n X dX1_read_7 rfl rfl ?_
  refine j_alen X 4 (t0 := 1) (wB_4 ..) rfl (v := (60 : Int32)) rfl dX1_read_8 ?_
  refine j_mmin X k_523 k_405 k_81 k_406 (Nat.le_of_ble_eq_true rfl) (Nat.le_of_ble_eq_true rfl) dX1_read_9 ?_
  obtain ⟨μ1, e_μ1, hf⟩ := bd_e hf
  refine j_put (C := RX1) (T := TX1) (N := 9) X iX1 0 (wB_0 ..) rfl 7 (by decide) k_161 rfl tyX1 tyX1_ok nmX1 rfl (ty := .int) (by decide +kernel) rfl rfl (Nat.le_of_ble_eq_true rfl) dX1_read_12 (ws' := (wB E h g μ1)) (by rw [e_μ1]; exact wB_f0_7 ..) ?_
  refine j_aload_n X dX1_read_15 rfl rfl ?_
  refine j_iconst (v := (0 : Int32)) X dX1_read_16 (by decide) ?_
  obtain ⟨μ2, e_μ2, hf⟩ := bd_e hf
  refine j_put (C := RX1) (T := TX1) (N := 9) X iX1 0 (wB_0 ..) rfl 8 (by decide) k_162 rfl tyX1 tyX1_ok nmX1 rfl (ty := .int) (by decide +kernel) rfl rfl (Nat.le_of_ble_eq_true rfl) dX1_read_17 (ws' := (wB E h g μ2)) (by rw [e_μ2]; exact wB_f0_8 ..) ?_
  refine j_aload_n X dX1_read_20 rfl rfl ?_
  refine j_iconst (v := (0 : Int32)) X dX1_read_21 (by decide) ?_
  obtain ⟨μ3, e_μ3, hf⟩ := bd_e hf
  refine j_put (C := RX1) (T := TX1) (N := 9) X iX1 0 (wB_0 ..) rfl 5 (by decide) k_159 rfl tyX1 tyX1_ok nmX1 rfl (ty := .int) (by decide +kernel) rfl rfl (Nat.le_of_ble_eq_true rfl) dX1_read_22 (ws' := (wB E h g μ3)) (by rw [e_μ3]; exact wB_f0_5 ..) ?_
  refine j_aload_n X dX1_read_25 rfl rfl ?_
  refine j_iconst (v := (0 : Int32)) X dX1_read_26 (by decide) ?_
  obtain ⟨q4, g_q4, hf⟩ := ob_t hf
  refine j_callV X [0, 1, 2, 3, 4] 0 (c_X1_readEither E h g g_q4) (cut_wB_wB_c ..) rfl rfl (ws' := (wB E h g q4.1)) (cut_wB_wB_w ..) (wB_0 ..) rfl k_524 k_526 k_4 k_77 k_527 (⟨rfl, rfl⟩) hdV_X1_readEither ⟨Nat.le_of_ble_eq_true rfl, Nat.le_of_ble_eq_true rfl⟩ rfl (Nat.le_of_ble_eq_true rfl) rfl dX1_read_27 ?_
  refine j_if_eq (tgt := 44) X dX1_read_30 (by decide) (fun c_30 => ?_) (fun c_30 => ?_)
  · replace hf := (if_pos c_30).symm.trans hf
    refine j_aload_n X dX1_read_44 rfl rfl ?_
    refine j_get (C := RX1) (T := TX1) (N := 9) X iX1 0 (wB_0 ..) rfl 8 (by decide) k_162 rfl rfl dX1_read_45 ?_
    obtain rfl := Option.some.inj hf
    exact j_iret X hr hlk rfl dX1_read_48 hQ
  · replace hf := (if_neg c_30).symm.trans hf
    refine j_aload_n X dX1_read_33 rfl rfl ?_
    refine j_get (C := RX1) (T := TX1) (N := 9) X iX1 0 (wB_0 ..) rfl 8 (by decide) k_162 rfl rfl dX1_read_34 ?_
    refine j_aload_n X dX1_read_37 rfl rfl ?_
    refine j_get (C := RX1) (T := TX1) (N := 9) X iX1 0 (wB_0 ..) rfl 7 (by decide) k_161 rfl rfl dX1_read_38 ?_
    refine j_icmp_ge (tgt := 49) X dX1_read_41 (by decide) (fun c_41 => ?_) (fun c_41 => ?_)
    · replace hf := (if_pos c_41).symm.trans hf
      refine j_aload_n X dX1_read_49 rfl rfl ?_
      refine j_get (C := RX1) (T := TX1) (N := 9) X iX1 0 (wB_0 ..) rfl 2 (by decide) k_156 rfl rfl dX1_read_50 ?_
      refine j_astore_n3 X dX1_read_53 rfl (by decide) rfl ?_
      refine j_aload_n X dX1_read_54 rfl rfl ?_
      refine j_aload_n X dX1_read_55 rfl rfl ?_
      refine j_get (C := RX1) (T := TX1) (N := 9) X iX1 0 (wB_0 ..) rfl 4 (by decide) k_158 rfl rfl dX1_read_56 ?_
      refine j_put (C := RX1) (T := TX1) (N := 9) X iX1 0 (wB_0 ..) rfl 2 (by decide) k_156 rfl tyX1 tyX1_ok nmX1 rfl (ty := .array .int) (by decide +kernel) rfl rfl (Nat.le_of_ble_eq_true rfl) dX1_read_59 (ws' := (wBm E h g q4.1)) rfl ?_
      refine j_aload_n X dX1_read_62 rfl rfl ?_
      refine j_aload_n X dX1_read_63 rfl rfl ?_
      refine j_get (C := RX1) (T := TX1) (N := 9) X iX1 0 (wBm_0 ..) rfl 5 (by decide) k_159 rfl rfl dX1_read_64 ?_
      obtain ⟨μ5, e_μ5, hf⟩ := bd_e hf
      refine j_put (C := RX1) (T := TX1) (N := 9) X iX1 0 (wBm_0 ..) rfl 3 (by decide) k_157 rfl tyX1 tyX1_ok nmX1 rfl (ty := .int) (by decide +kernel) rfl rfl (Nat.le_of_ble_eq_true rfl) dX1_read_67 (ws' := (wBm E h g μ5)) (by rw [e_μ5]; exact wBm_f0_3 ..) ?_
      refine j_aload_n X dX1_read_70 rfl rfl ?_
      refine j_aload_n X dX1_read_71 rfl rfl ?_
      refine j_put (C := RX1) (T := TX1) (N := 9) X iX1 0 (wBm_0 ..) rfl 4 (by decide) k_158 rfl tyX1 tyX1_ok nmX1 rfl (ty := .array .int) (by decide +kernel) rfl rfl (Nat.le_of_ble_eq_true rfl) dX1_read_72 (ws' := (wBs E h g μ5)) rfl ?_
      refine j_iconst (v := (-1 : Int32)) X dX1_read_75 (by decide) ?_
      obtain rfl := Option.some.inj hf
      exact j_iret X hr hlk rfl dX1_read_76 hQ
    · replace hf := (if_neg c_41).symm.trans hf
      refine j_aload_n X dX1_read_44 rfl rfl ?_
      refine j_get (C := RX1) (T := TX1) (N := 9) X iX1 0 (wB_0 ..) rfl 8 (by decide) k_162 rfl rfl dX1_read_45 ?_
      obtain rfl := Option.some.inj hf
      exact j_iret X hr hlk rfl dX1_read_48 hQ
def f_X5_draw (μ : Mem) : Option (Mem × Int32) := bd (upA μ 0 (upd (μ 0) 7 (((μ 0 7) * (1103515245 : Int32)) + (12345 : Int32)))) fun μ1 => (some (μ1, (iushr (μ1 0 7) (8 : Int32))))
set_option maxHeartbeats 4000000 in
set_option maxRecDepth 20000 in
theorem c_X5_draw (E : Ev) (h : Nat → Nat) (g : Nat → Option Nat) {μ : Mem} {r : (Mem × Int32)} (hf : f_X5_draw μ = some r) : Ct E yX5_draw cX5_draw 1 (some .int) (rmOf 0 0) (wZ E h g μ) (wZ E h g r.1) [.ref (h 0)] (some (.int r.2)) := by
  refine ct_start RX5 0 (by decide) rfl (Nat.le_of_ble_eq_true rfl) ?_
  intro p l e s m args below meth c A Q X hr hlk hQ
  rw [f_X5_draw] at hf
  refine j_aload_n X dX5_draw_0 rfl rfl ?_
  refine j_aload_n X dX5_draw_1 rfl rfl ?_
  refine j_get (C := RX5) (T := TX5) (N := 8) X iX5 0 (wZ_0 ..) rfl 7 (by decide) k_248 rfl rfl dX5_draw_2 ?_
  refine j_ldc X k_625 dX5_draw_5 ?_
  refine j_imul X dX5_draw_7 ?_
  refine j_sipush (v := (12345 : Int32)) X dX5_draw_8 (by decide) ?_
  refine j_iadd X dX5_draw_11 ?_
  obtain ⟨μ1, e_μ1, hf⟩ := bd_e hf
  refine j_put (C := RX5) (T := TX5) (N := 8) X iX5 0 (wZ_0 ..) rfl 7 (by decide) k_248 rfl tyX5 tyX5_ok nmX5 rfl (ty := .int) (by decide +kernel) rfl rfl (Nat.le_of_ble_eq_true rfl) dX5_draw_12 (ws' := (wZ E h g μ1)) (by rw [e_μ1]; exact wZ_f0_7 ..) ?_
  refine j_aload_n X dX5_draw_15 rfl rfl ?_
  refine j_get (C := RX5) (T := TX5) (N := 8) X iX5 0 (wZ_0 ..) rfl 7 (by decide) k_248 rfl rfl dX5_draw_16 ?_
  refine j_bipush (v := (8 : Int32)) X dX5_draw_19 (by decide) ?_
  refine j_iushr X dX5_draw_21 ?_
  obtain rfl := Option.some.inj hf
  exact j_iret X hr hlk rfl dX5_draw_22 hQ
def f_X5_lawOf (μ : Mem) (x1 : Int32) : Option (Mem × Nat) := (if x1 = 0 then some (μ, 1) else some (μ, 2))
set_option maxHeartbeats 4000000 in
set_option maxRecDepth 20000 in
theorem c_X5_lawOf (E : Ev) (h : Nat → Nat) (g : Nat → Option Nat) {μ : Mem} {x1 : Int32} {r : (Mem × Nat)} (hf : f_X5_lawOf μ x1 = some r) : Ct E yX5_lawOf cX5_lawOf 2 (some (.object "StandStill$Law")) (rmOf 0 0) (wZ E h g μ) (wZ E h g r.1) [.ref (h 0), .int x1] (some (.ref (h r.2))) := by
  refine ct_start RX5 0 (by decide) rfl (Nat.le_of_ble_eq_true rfl) ?_
  intro p l e s m args below meth c A Q X hr hlk hQ
  rw [f_X5_lawOf] at hf
  refine j_iload_n X dX5_lawOf_0 rfl rfl ?_
  refine j_if_ne (tgt := 11) X dX5_lawOf_1 (by decide) (fun c_1 => ?_) (fun c_1 => ?_)
  · replace hf := (if_neg c_1).symm.trans hf
    refine j_aload_n X dX5_lawOf_11 rfl rfl ?_
    refine j_get (C := RX5) (T := TX5) (N := 8) X iX5 0 (wZ_0 ..) rfl 1 (by decide) k_236 rfl rfl dX5_lawOf_12 ?_
    obtain rfl := Option.some.inj hf
    exact j_aret X hr hlk dX5_lawOf_15 hQ
  · replace hf := (if_pos c_1).symm.trans hf
    refine j_aload_n X dX5_lawOf_4 rfl rfl ?_
    refine j_get (C := RX5) (T := TX5) (N := 8) X iX5 0 (wZ_0 ..) rfl 0 (by decide) k_234 rfl rfl dX5_lawOf_5 ?_
    refine j_goto (tgt := 15) X dX5_lawOf_8 (by decide) ?_
    obtain rfl := Option.some.inj hf
    exact j_aret X hr hlk dX5_lawOf_15 hQ
theorem cut_wSC_wLC_1_2_14_c (E : Ev) (h : Nat → Nat) (g : Nat → Option Nat) (μ : Mem) : ([1, 2, 14, 15] : List Nat).map (fun i => (wSC E h g μ)[i]?) = (wLC E (fun j => h (List.getD [1, 2, 14, 15, 26, 27, 30, 31] j 0)) (fun j => g (List.getD [0, 2] j 0)) (sub [1, 2, 14, 15] μ)).map some := rfl
theorem cut_wSC_wLC_1_2_14_w (E : Ev) (h : Nat → Nat) (g : Nat → Option Nat) (μ : Mem) (ν : Mem) : putW (wSC E h g μ) [1, 2, 14, 15] (wLC E (fun j => h (List.getD [1, 2, 14, 15, 26, 27, 30, 31] j 0)) (fun j => g (List.getD [0, 2] j 0)) ν) = wSC E h g (put [1, 2, 14, 15] μ ν) := putW_A (by decide +kernel) rfl rfl
theorem cut_wSC_wLC_3_4_16_c (E : Ev) (h : Nat → Nat) (g : Nat → Option Nat) (μ : Mem) : ([3, 4, 16, 17] : List Nat).map (fun i => (wSC E h g μ)[i]?) = (wLC E (fun j => h (List.getD [3, 4, 16, 17, 28, 29, 32, 33] j 0)) (fun j => g (List.getD [1, 3] j 0)) (sub [3, 4, 16, 17] μ)).map some := rfl
theorem cut_wSC_wLC_3_4_16_w (E : Ev) (h : Nat → Nat) (g : Nat → Option Nat) (μ : Mem) (ν : Mem) : putW (wSC E h g μ) [3, 4, 16, 17] (wLC E (fun j => h (List.getD [3, 4, 16, 17, 28, 29, 32, 33] j 0)) (fun j => g (List.getD [1, 3] j 0)) ν) = wSC E h g (put [3, 4, 16, 17] μ ν) := putW_A (by decide +kernel) rfl rfl
theorem cut_wSC_wRC_5_6_7_c (E : Ev) (h : Nat → Nat) (g : Nat → Option Nat) (μ : Mem) : ([5, 6, 7, 8, 9, 10, 18, 19, 20, 21, 22, 23] : List Nat).map (fun i => (wSC E h g μ)[i]?) = (wRC E (fun j => h (List.getD [5, 6, 7, 8, 9, 10, 18, 19, 20, 21, 22, 23, 1, 3, 34, 14, 16, 34] j 0)) (fun j => g (List.getD ([] : List Nat) j 0)) (sub [5, 6, 7, 8, 9, 10, 18, 19, 20, 21, 22, 23] μ)).map some := rfl
theorem cut_wSC_wRC_5_6_7_w (E : Ev) (h : Nat → Nat) (g : Nat → Option Nat) (μ : Mem) (ν : Mem) : putW (wSC E h g μ) [5, 6, 7, 8, 9, 10, 18, 19, 20, 21, 22, 23] (wRC E (fun j => h (List.getD [5, 6, 7, 8, 9, 10, 18, 19, 20, 21, 22, 23, 1, 3, 34, 14, 16, 34] j 0)) (fun j => g (List.getD ([] : List Nat) j 0)) ν) = wSC E h g (put [5, 6, 7, 8, 9, 10, 18, 19, 20, 21, 22, 23] μ ν) := putW_A (by decide +kernel) rfl rfl
def f_X5_copyFrom (μ : Mem) : Option Mem := (f_X1_copyFrom (sub [1, 2, 14, 15] μ)).bind fun q1 => (bd (put [1, 2, 14, 15] μ q1) fun μ2 => ((f_X1_copyFrom (sub [3, 4, 16, 17] μ2)).bind fun q3 => (bd (put [3, 4, 16, 17] μ2 q3) fun μ4 => ((f_X4_copyFrom (sub [5, 6, 7, 8, 9, 10, 18, 19, 20, 21, 22, 23] μ4)).bind fun q5 => (bd (put [5, 6, 7, 8, 9, 10, 18, 19, 20, 21, 22, 23] μ4 q5) fun μ6 => ((if incb (μ6 24) (0 : Int32) (0 : Int32) (60 : Int32) 60 60 = true then bd (upA μ6 11 (va_cpy (μ6 24) (μ6 11) (0 : Int32).toNatClampNeg (0 : Int32).toNatClampNeg (60 : Int32).toNatClampNeg)) fun μ8 => ((if inc (0 : Int32) (0 : Int32) (24 : Int32) 24 24 = true then bd (upA μ8 12 (va_cpy (μ8 25) (μ8 12) (0 : Int32).toNatClampNeg (0 : Int32).toNatClampNeg (24 : Int32).toNatClampNeg)) fun μ10 => (bd (upA μ10 0 (upd (μ10 0) 5 (μ10 13 5))) fun μ11 => (bd (upA μ11 0 (upd (μ11 0) 6 (μ11 13 6))) fun μ12 => (bd (upA μ12 0 (upd (μ12 0) 7 (μ12 13 7))) fun μ13 => (some μ13)))) else none)) else none)))))))
set_option maxHeartbeats 4000000 in
set_option maxRecDepth 20000 in
theorem c_X5_copyFrom (E : Ev) (h : Nat → Nat) (g : Nat → Option Nat) {μ : Mem} {r : Mem} (hf : f_X5_copyFrom μ = some r) : Ct E yX5_copyFrom cX5_copyFrom 2 none (rmOf 2 64) (wSC E h g μ) (wSC E h g r) [.ref (h 0), .ref (h 13)] none := by
  refine ct_start RX5 0 (by decide) rfl (Nat.le_of_ble_eq_true rfl) ?_
  intro p l e s m args below meth c A Q X hr hlk hQ
  rw [f_X5_copyFrom] at hf
  refine j_aload_n X dX5_copyFrom_0 rfl rfl ?_
  refine j_get (C := RX5) (T := TX5) (N := 8) X iX5 0 (wSC_0 ..) rfl 0 (by decide) k_234 rfl rfl dX5_copyFrom_1 ?_
  refine j_aload_n X dX5_copyFrom_4 rfl rfl ?_
  refine j_get (C := RX5) (T := TX5) (N := 8) X iX5 13 (wSC_13 ..) rfl 0 (by decide) k_234 rfl rfl dX5_copyFrom_5 ?_
  obtain ⟨q1, g_q1, hf⟩ := ob_t hf
  obtain ⟨μ2, e_μ2, hf⟩ := bd_e hf
  refine j_callV X [1, 2, 14, 15] 0 (c_X1_copyFrom E (fun j => h (List.getD [1, 2, 14, 15, 26, 27, 30, 31] j 0)) (fun j => g (List.getD [0, 2] j 0)) g_q1) (cut_wSC_wLC_1_2_14_c ..) rfl rfl (ws' := (wSC E h g μ2)) (by rw [e_μ2]; exact cut_wSC_wLC_1_2_14_w ..) (wLC_0 ..) rfl k_875 k_876 k_877 k_77 k_878 (⟨rfl, rfl⟩) hdV_X1_copyFrom ⟨Nat.le_of_ble_eq_true rfl, Nat.le_of_ble_eq_true rfl⟩ rfl (Nat.le_of_ble_eq_true rfl) rfl dX5_copyFrom_8 ?_
  refine j_aload_n X dX5_copyFrom_11 rfl rfl ?_
  refine j_get (C := RX5) (T := TX5) (N := 8) X iX5 0 (wSC_0 ..) rfl 1 (by decide) k_236 rfl rfl dX5_copyFrom_12 ?_
  refine j_aload_n X dX5_copyFrom_15 rfl rfl ?_
  refine j_get (C := RX5) (T := TX5) (N := 8) X iX5 13 (wSC_13 ..) rfl 1 (by decide) k_236 rfl rfl dX5_copyFrom_16 ?_
  obtain ⟨q3, g_q3, hf⟩ := ob_t hf
  obtain ⟨μ4, e_μ4, hf⟩ := bd_e hf
  refine j_callV X [3, 4, 16, 17] 0 (c_X1_copyFrom E (fun j => h (List.getD [3, 4, 16, 17, 28, 29, 32, 33] j 0)) (fun j => g (List.getD [1, 3] j 0)) g_q3) (cut_wSC_wLC_3_4_16_c ..) rfl rfl (ws' := (wSC E h g μ4)) (by rw [e_μ4]; exact cut_wSC_wLC_3_4_16_w ..) (wLC_0 ..) rfl k_875 k_876 k_877 k_77 k_878 (⟨rfl, rfl⟩) hdV_X1_copyFrom ⟨Nat.le_of_ble_eq_true rfl, Nat.le_of_ble_eq_true rfl⟩ rfl (Nat.le_of_ble_eq_true rfl) rfl dX5_copyFrom_19 ?_
  refine j_aload_n X dX5_copyFrom_22 rfl rfl ?_
  refine j_get (C := RX5) (T := TX5) (N := 8) X iX5 0 (wSC_0 ..) rfl 2 (by decide) k_238 rfl rfl dX5_copyFrom_23 ?_
  refine j_aload_n X dX5_copyFrom_26 rfl rfl ?_
  refine j_get (C := RX5) (T := TX5) (N := 8) X iX5 13 (wSC_13 ..) rfl 2 (by decide) k_238 rfl rfl dX5_copyFrom_27 ?_
  obtain ⟨q5, g_q5, hf⟩ := ob_t hf
  obtain ⟨μ6, e_μ6, hf⟩ := bd_e hf
  refine j_callV X [5, 6, 7, 8, 9, 10, 18, 19, 20, 21, 22, 23] 0 (c_X4_copyFrom E (fun j => h (List.getD [5, 6, 7, 8, 9, 10, 18, 19, 20, 21, 22, 23, 1, 3, 34, 14, 16, 34] j 0)) (fun j => g (List.getD [] j 0)) g_q5) (cut_wSC_wRC_5_6_7_c ..) rfl rfl (ws' := (wSC E h g μ6)) (by rw [e_μ6]; exact cut_wSC_wRC_5_6_7_w ..) (wRC_0 ..) rfl k_880 k_639 k_640 k_78 k_641 (⟨rfl, rfl⟩) hdV_X4_copyFrom ⟨Nat.le_of_ble_eq_true rfl, Nat.le_of_ble_eq_true rfl⟩ rfl (Nat.le_of_ble_eq_true rfl) rfl dX5_copyFrom_30 ?_
  refine j_aload_n X dX5_copyFrom_33 rfl rfl ?_
  refine j_get (C := RX5) (T := TX5) (N := 8) X iX5 13 (wSC_13 ..) rfl 3 (by decide) k_240 rfl rfl dX5_copyFrom_34 ?_
  refine j_iconst (v := (0 : Int32)) X dX5_copyFrom_37 (by decide) ?_
  refine j_aload_n X dX5_copyFrom_38 rfl rfl ?_
  refine j_get (C := RX5) (T := TX5) (N := 8) X iX5 0 (wSC_0 ..) rfl 3 (by decide) k_240 rfl rfl dX5_copyFrom_39 ?_
  refine j_iconst (v := (0 : Int32)) X dX5_copyFrom_42 (by decide) ?_
  refine j_bipush (v := (60 : Int32)) X dX5_copyFrom_43 (by decide) ?_
  obtain ⟨c7, hf⟩ := oi_cpb hf
  obtain ⟨μ8, e_μ8, hf⟩ := bd_e hf
  refine j_copyb X k_881 k_644 k_643 k_82 24 11 (wSC_24 ..) (wSC_11 ..) c7.1 c7.2.1 c7.2.2.1 c7.2.2.2.1 c7.2.2.2.2.1 c7.2.2.2.2.2 (Nat.le_of_ble_eq_true rfl) (Nat.le_of_ble_eq_true rfl) dX5_copyFrom_45 (ws' := (wSC E h g μ8)) (by rw [e_μ8]; exact wSC_s11 ..) ?_
  refine j_aload_n X dX5_copyFrom_48 rfl rfl ?_
  refine j_get (C := RX5) (T := TX5) (N := 8) X iX5 13 (wSC_13 ..) rfl 4 (by decide) k_242 rfl rfl dX5_copyFrom_49 ?_
  refine j_iconst (v := (0 : Int32)) X dX5_copyFrom_52 (by decide) ?_
  refine j_aload_n X dX5_copyFrom_53 rfl rfl ?_
  refine j_get (C := RX5) (T := TX5) (N := 8) X iX5 0 (wSC_0 ..) rfl 4 (by decide) k_242 rfl rfl dX5_copyFrom_54 ?_
  refine j_iconst (v := (0 : Int32)) X dX5_copyFrom_57 (by decide) ?_
  refine j_bipush (v := (24 : Int32)) X dX5_copyFrom_58 (by decide) ?_
  obtain ⟨c9, hf⟩ := oi_cp hf
  obtain ⟨μ10, e_μ10, hf⟩ := bd_e hf
  refine j_copyi X k_881 k_644 k_643 k_82 25 12 (wSC_25 ..) (wSC_12 ..) c9.1 c9.2.1 c9.2.2.1 c9.2.2.2.1 c9.2.2.2.2 (Nat.le_of_ble_eq_true rfl) (Nat.le_of_ble_eq_true rfl) dX5_copyFrom_60 (ws' := (wSC E h g μ10)) (by rw [e_μ10]; exact wSC_s12 ..) ?_
  refine j_aload_n X dX5_copyFrom_63 rfl rfl ?_
  refine j_aload_n X dX5_copyFrom_64 rfl rfl ?_
  refine j_get (C := RX5) (T := TX5) (N := 8) X iX5 13 (wSC_13 ..) rfl 5 (by decide) k_244 rfl rfl dX5_copyFrom_65 ?_
  obtain ⟨μ11, e_μ11, hf⟩ := bd_e hf
  refine j_put (C := RX5) (T := TX5) (N := 8) X iX5 0 (wSC_0 ..) rfl 5 (by decide) k_244 rfl tyX5 tyX5_ok nmX5 rfl (ty := .int) (by decide +kernel) rfl rfl (Nat.le_of_ble_eq_true rfl) dX5_copyFrom_68 (ws' := (wSC E h g μ11)) (by rw [e_μ11]; exact wSC_f0_5 ..) ?_
  refine j_aload_n X dX5_copyFrom_71 rfl rfl ?_
  refine j_aload_n X dX5_copyFrom_72 rfl rfl ?_
  refine j_get (C := RX5) (T := TX5) (N := 8) X iX5 13 (wSC_13 ..) rfl 6 (by decide) k_246 rfl rfl dX5_copyFrom_73 ?_
  obtain ⟨μ12, e_μ12, hf⟩ := bd_e hf
  refine j_put (C := RX5) (T := TX5) (N := 8) X iX5 0 (wSC_0 ..) rfl 6 (by decide) k_246 rfl tyX5 tyX5_ok nmX5 rfl (ty := .int) (by decide +kernel) rfl rfl (Nat.le_of_ble_eq_true rfl) dX5_copyFrom_76 (ws' := (wSC E h g μ12)) (by rw [e_μ12]; exact wSC_f0_6 ..) ?_
  refine j_aload_n X dX5_copyFrom_79 rfl rfl ?_
  refine j_aload_n X dX5_copyFrom_80 rfl rfl ?_
  refine j_get (C := RX5) (T := TX5) (N := 8) X iX5 13 (wSC_13 ..) rfl 7 (by decide) k_248 rfl rfl dX5_copyFrom_81 ?_
  obtain ⟨μ13, e_μ13, hf⟩ := bd_e hf
  refine j_put (C := RX5) (T := TX5) (N := 8) X iX5 0 (wSC_0 ..) rfl 7 (by decide) k_248 rfl tyX5 tyX5_ok nmX5 rfl (ty := .int) (by decide +kernel) rfl rfl (Nat.le_of_ble_eq_true rfl) dX5_copyFrom_84 (ws' := (wSC E h g μ13)) (by rw [e_μ13]; exact wSC_f0_7 ..) ?_
  obtain rfl := Option.some.inj hf
  exact j_vret X hr hlk dX5_copyFrom_87 hQ
def f_X11_within (x0 : Int32) (x1 : Int32) (x2 : Int32) : Option Int32 := (if x0 < x1 then some (0 : Int32) else (if x2 < x0 then some (0 : Int32) else some (1 : Int32)))
set_option maxHeartbeats 4000000 in
set_option maxRecDepth 20000 in
theorem c_X11_within (E : Ev) {x0 : Int32} {x1 : Int32} {x2 : Int32} {r : Int32} (hf : f_X11_within x0 x1 x2 = some r) : Ct E yX11_within cX11_within 3 (some .boolean) (rmOf 0 0) [] [] [.int x0, .int x1, .int x2] (some (.int r)) := by
  refine ct_start RX11 0 (by decide) rfl (Nat.le_of_ble_eq_true rfl) ?_
  intro p l e s m args below meth c A Q X hr hlk hQ
  rw [f_X11_within] at hf
  refine j_iload_n X dX11_within_0 rfl rfl ?_
  refine j_iload_n X dX11_within_1 rfl rfl ?_
  refine j_icmp_lt (tgt := 14) X dX11_within_2 (by decide) (fun c_2 => ?_) (fun c_2 => ?_)
  · replace hf := (if_pos c_2).symm.trans hf
    refine j_iconst (v := (0 : Int32)) X dX11_within_14 (by decide) ?_
    obtain rfl := Option.some.inj hf
    exact j_iret X hr hlk rfl dX11_within_15 hQ
  · replace hf := (if_neg c_2).symm.trans hf
    refine j_iload_n X dX11_within_5 rfl rfl ?_
    refine j_iload_n X dX11_within_6 rfl rfl ?_
    refine j_icmp_gt (tgt := 14) X dX11_within_7 (by decide) (fun c_7 => ?_) (fun c_7 => ?_)
    · replace hf := (if_pos c_7).symm.trans hf
      refine j_iconst (v := (0 : Int32)) X dX11_within_14 (by decide) ?_
      obtain rfl := Option.some.inj hf
      exact j_iret X hr hlk rfl dX11_within_15 hQ
    · replace hf := (if_neg c_7).symm.trans hf
      refine j_iconst (v := (1 : Int32)) X dX11_within_10 (by decide) ?_
      refine j_goto (tgt := 15) X dX11_within_11 (by decide) ?_
      obtain rfl := Option.some.inj hf
      exact j_iret X hr hlk rfl dX11_within_15 hQ
def f_X11_isStander (x0 : Int32) : Option Int32 := (f_X11_within x0 (0 : Int32) (8 : Int32)).bind fun q1 => ((if q1 = 0 ∨ q1 = 1 then some q1 else none))
set_option maxHeartbeats 4000000 in
set_option maxRecDepth 20000 in
theorem c_X11_isStander (E : Ev) {x0 : Int32} {r : Int32} (hf : f_X11_isStander x0 = some r) : Ct E yX11_isStander cX11_isStander 1 (some .boolean) (rmOf 1 22) [] [] [.int x0] (some (.int r)) := by
  refine ct_start RX11 0 (by decide) rfl (Nat.le_of_ble_eq_true rfl) ?_
  intro p l e s m args below meth c A Q X hr hlk hQ
  rw [f_X11_isStander] at hf
  refine j_iload_n X dX11_isStander_0 rfl rfl ?_
  refine j_iconst (v := (0 : Int32)) X dX11_isStander_1 (by decide) ?_
  refine j_bipush (v := (8 : Int32)) X dX11_isStander_2 (by decide) ?_
  obtain ⟨q1, g_q1, hf⟩ := ob_t hf
  refine j_callS X [] (c_X11_within E g_q1) rfl rfl rfl (ws' := []) rfl k_348 k_349 k_68 k_350 (⟨rfl, rfl⟩) hdS_X11_within ⟨Nat.le_of_ble_eq_true rfl, Nat.le_of_ble_eq_true rfl⟩ rfl (Nat.le_of_ble_eq_true rfl) rfl dX11_isStander_4 ?_
  obtain ⟨c2, hf⟩ := oi_t hf
  obtain rfl := Option.some.inj hf
  exact j_iret X hr hlk (nb01 c2) dX11_isStander_7 hQ
def f_X11_fails (μ : Mem) (x1 : Int32) : Option (Mem × Int32) := (if inb x1 7 = true then (if inb x1 7 = true then bd (upA μ 84 (upd (μ 84) x1.toNatClampNeg ((μ 84 x1.toNatClampNeg) + (1 : Int32)))) fun μ3 => (some (μ3, ((-1000000000 : Int32) - x1))) else none) else none)
set_option maxHeartbeats 4000000 in
set_option maxRecDepth 20000 in
theorem c_X11_fails (E : Ev) (h : Nat → Nat) (g : Nat → Option Nat) {μ : Mem} {x1 : Int32} {r : (Mem × Int32)} (hf : f_X11_fails μ x1 = some r) : Ct E yX11_fails cX11_fails 2 (some .int) (rmOf 0 0) (wX E h g μ) (wX E h g r.1) [.ref (h 0), .int x1] (some (.int r.2)) := by
  refine ct_start RX11 0 (by decide) rfl (Nat.le_of_ble_eq_true rfl) ?_
  intro p l e s m args below meth c A Q X hr hlk hQ
  rw [f_X11_fails] at hf
  refine j_aload_n X dX11_fails_0 rfl rfl ?_
  refine j_get (C := RX11) (T := TX11) (N := 10) X iX11 0 (wX_0 ..) rfl 8 (by decide) k_318 rfl rfl dX11_fails_1 ?_
  refine j_iload_n X dX11_fails_4 rfl rfl ?_
  refine j_dup2 X dX11_fails_5 rfl rfl ?_
  obtain ⟨c1, hf⟩ := oi_in hf
  refine j_iald X 84 (wX_84 ..) c1 dX11_fails_6 ?_
  refine j_iconst (v := (1 : Int32)) X dX11_fails_7 (by decide) ?_
  refine j_iadd X dX11_fails_8 ?_
  obtain ⟨c2, hf⟩ := oi_in hf
  obtain ⟨μ3, e_μ3, hf⟩ := bd_e hf
  refine j_iast X 84 (wX_84 ..) c2 dX11_fails_9 (ws' := (wX E h g μ3)) (by rw [e_μ3]; exact wX_s84 ..) ?_
  refine j_ldcw X k_355 dX11_fails_10 ?_
  refine j_iload_n X dX11_fails_13 rfl rfl ?_
  refine j_isub X dX11_fails_14 ?_
  obtain rfl := Option.some.inj hf
  exact j_iret X hr hlk rfl dX11_fails_15 hQ
theorem cut_wX_wX_c (E : Ev) (h : Nat → Nat) (g : Nat → Option Nat) (μ : Mem) : ([0, 1, 2, 3, 4, 5, 6, 7, 8, 9, 10, 11, 12, 13, 14, 15, 16, 17, 18, 19, 20, 21, 22, 23, 24, 25, 26, 27, 28, 29, 30, 31, 32, 33, 34, 35, 36, 37, 38, 39, 40, 41, 42, 43, 44, 45, 46, 47, 48, 49, 50, 51, 52, 53, 54, 55, 56, 57, 58, 59, 60, 61, 62, 63, 64, 65, 66, 67, 68, 69, 70, 71, 72, 73, 74, 75, 76, 77, 78, 79, 80, 81, 82, 83, 84] : List Nat).map (fun i => (wX E h g μ)[i]?) = (wX E h g μ).map some := cutAll (n := 85) rfl
theorem cut_wX_wX_w (E : Ev) (h : Nat → Nat) (g : Nat → Option Nat) (μ : Mem) (ν : Mem) : putW (wX E h g μ) [0, 1, 2, 3, 4, 5, 6, 7, 8, 9, 10, 11, 12, 13, 14, 15, 16, 17, 18, 19, 20, 21, 22, 23, 24, 25, 26, 27, 28, 29, 30, 31, 32, 33, 34, 35, 36, 37, 38, 39, 40, 41, 42, 43, 44, 45, 46, 47, 48, 49, 50, 51, 52, 53, 54, 55, 56, 57, 58, 59, 60, 61, 62, 63, 64, 65, 66, 67, 68, 69, 70, 71, 72, 73, 74, 75, 76, 77, 78, 79, 80, 81, 82, 83, 84] (wX E h g ν) = wX E h g ν := putW_all (n := 85) (by decide +kernel) rfl rfl
def f_X11_stander (μ : Mem) (x1 : Int32) (x2 : Int32) : Option (Mem × Int32) := (f_X11_isStander x1).bind fun q1 => ((if q1 = 0 then (f_X11_fails μ (1 : Int32)).bind fun q2 => (some (q2.1, q2.2)) else (f_X11_within x2 (0 : Int32) (69 : Int32)).bind fun q3 => ((if q3 = 0 then (f_X11_fails μ (1 : Int32)).bind fun q11 => (some (q11.1, q11.2)) else (if inb x1 9 = true then (if inb x1 9 = true then bd (((10 : Int32) * (μ 24 x1.toNatClampNeg)) + (μ 25 x1.toNatClampNeg)) fun y6 => ((if inb x1 9 = true then bd (upA μ 24 (upd (μ 24) x1.toNatClampNeg (x2 / (10 : Int32)))) fun μ8 => ((if inb x1 9 = true then bd (upA μ8 25 (upd (μ8 25) x1.toNatClampNeg (x2 - x2 / (10 : Int32) * (10 : Int32)))) fun μ10 => (some (μ10, y6)) else none)) else none)) else none) else none)))))
set_option maxHeartbeats 4000000 in
set_option maxRecDepth 20000 in
theorem c_X11_stander (E : Ev) (h : Nat → Nat) (g : Nat → Option Nat) {μ : Mem} {x1 : Int32} {x2 : Int32} {r : (Mem × Int32)} (hf : f_X11_stander μ x1 x2 = some r) : Ct E yX11_stander cX11_stander 4 (some .int) (rmOf 2 42) (wX E h g μ) (wX E h g r.1) [.ref (h 0), .int x1, .int x2] (some (.int r.2)) := by
  refine ct_start RX11 1 (by decide) rfl (Nat.le_of_ble_eq_true rfl) ?_
  intro p l e s m args below meth c A Q X hr hlk hQ
  rw [f_X11_stander] at hf
  refine j_iload_n X dX11_stander_0 rfl rfl ?_
  obtain ⟨q1, g_q1, hf⟩ := ob_t hf
  refine j_callS X [] (c_X11_isStander E g_q1) rfl rfl rfl (ws' := (wX E h g μ)) rfl k_345 k_346 k_68 k_347 (⟨rfl, rfl⟩) hdS_X11_isStander ⟨Nat.le_of_ble_eq_true rfl, Nat.le_of_ble_eq_true rfl⟩ rfl (Nat.le_of_ble_eq_true rfl) rfl dX11_stander_1 ?_
  refine j_if_eq (tgt := 17) X dX11_stander_4 (by decide) (fun c_4 => ?_) (fun c_4 => ?_)
  · replace hf := (if_pos c_4).symm.trans hf
    refine j_aload_n X dX11_stander_17 rfl rfl ?_
    refine j_iconst (v := (1 : Int32)) X dX11_stander_18 (by decide) ?_
    obtain ⟨q2, g_q2, hf⟩ := ob_t hf
    refine j_callV X [0, 1, 2, 3, 4, 5, 6, 7, 8, 9, 10, 11, 12, 13, 14, 15, 16, 17, 18, 19, 20, 21, 22, 23, 24, 25, 26, 27, 28, 29, 30, 31, 32, 33, 34, 35, 36, 37, 38, 39, 40, 41, 42, 43, 44, 45, 46, 47, 48, 49, 50, 51, 52, 53, 54, 55, 56, 57, 58, 59, 60, 61, 62, 63, 64, 65, 66, 67, 68, 69, 70, 71, 72, 73, 74, 75, 76, 77, 78, 79, 80, 81, 82, 83, 84] 0 (c_X11_fails E h g g_q2) (cut_wX_wX_c ..) rfl rfl (ws' := (wX E h g q2.1)) (cut_wX_wX_w ..) (wX_0 ..) rfl k_351 k_353 k_0 k_68 k_354 (⟨rfl, rfl⟩) hdV_X11_fails ⟨Nat.le_of_ble_eq_true rfl, Nat.le_of_ble_eq_true rfl⟩ rfl (Nat.le_of_ble_eq_true rfl) rfl dX11_stander_19 ?_
    obtain rfl := Option.some.inj hf
    exact j_iret X hr hlk rfl dX11_stander_22 hQ
  · replace hf := (if_neg c_4).symm.trans hf
    refine j_iload_n X dX11_stander_7 rfl rfl ?_
    refine j_iconst (v := (0 : Int32)) X dX11_stander_8 (by decide) ?_
    refine j_bipush (v := (69 : Int32)) X dX11_stander_9 (by decide) ?_
    obtain ⟨q3, g_q3, hf⟩ := ob_t hf
    refine j_callS X [] (c_X11_within E g_q3) rfl rfl rfl (ws' := (wX E h g μ)) rfl k_348 k_349 k_68 k_350 (⟨rfl, rfl⟩) hdS_X11_within ⟨Nat.le_of_ble_eq_true rfl, Nat.le_of_ble_eq_true rfl⟩ rfl (Nat.le_of_ble_eq_true rfl) rfl dX11_stander_11 ?_
    refine j_if_ne (tgt := 23) X dX11_stander_14 (by decide) (fun c_14 => ?_) (fun c_14 => ?_)
    · replace hf := (if_neg c_14).symm.trans hf
      refine j_bipush (v := (10 : Int32)) X dX11_stander_23 (by decide) ?_
      refine j_aload_n X dX11_stander_25 rfl rfl ?_
      refine j_get (C := RX11) (T := TX11) (N := 10) X iX11 0 (wX_0 ..) rfl 0 (by decide) k_310 rfl rfl dX11_stander_26 ?_
      refine j_get (C := RX5) (T := TX5) (N := 8) X iX5 1 (wX_1 ..) rfl 2 (by decide) k_239 rfl rfl dX11_stander_29 ?_
      refine j_get (C := RX4) (T := TX4) (N := 10) X iX4 23 (wX_23 ..) rfl 0 (by decide) k_190 rfl rfl dX11_stander_32 ?_
      refine j_iload_n X dX11_stander_35 rfl rfl ?_
      obtain ⟨c4, hf⟩ := oi_in hf
      refine j_iald X 24 (wX_24 ..) c4 dX11_stander_36 ?_
      refine j_imul X dX11_stander_37 ?_
      refine j_aload_n X dX11_stander_38 rfl rfl ?_
      refine j_get (C := RX11) (T := TX11) (N := 10) X iX11 0 (wX_0 ..) rfl 0 (by decide) k_310 rfl rfl dX11_stander_39 ?_
      refine j_get (C := RX5) (T := TX5) (N := 8) X iX5 1 (wX_1 ..) rfl 2 (by decide) k_239 rfl rfl dX11_stander_42 ?_
      refine j_get (C := RX4) (T := TX4) (N := 10) X iX4 23 (wX_23 ..) rfl 1 (by decide) k_195 rfl rfl dX11_stander_45 ?_
      refine j_iload_n X dX11_stander_48 rfl rfl ?_
      obtain ⟨c5, hf⟩ := oi_in hf
      refine j_iald X 25 (wX_25 ..) c5 dX11_stander_49 ?_
      refine j_iadd X dX11_stander_50 ?_
      obtain ⟨y6, e_y6, hf⟩ := bd_e hf
      refine j_top e_y6 ?_
      refine j_istore_n3 X dX11_stander_51 rfl (by decide) rfl ?_
      refine j_aload_n X dX11_stander_52 rfl rfl ?_
      refine j_get (C := RX11) (T := TX11) (N := 10) X iX11 0 (wX_0 ..) rfl 0 (by decide) k_310 rfl rfl dX11_stander_53 ?_
      refine j_get (C := RX5) (T := TX5) (N := 8) X iX5 1 (wX_1 ..) rfl 2 (by decide) k_239 rfl rfl dX11_stander_56 ?_
      refine j_get (C := RX4) (T := TX4) (N := 10) X iX4 23 (wX_23 ..) rfl 0 (by decide) k_190 rfl rfl dX11_stander_59 ?_
      refine j_iload_n X dX11_stander_62 rfl rfl ?_
      refine j_iload_n X dX11_stander_63 rfl rfl ?_
      refine j_bipush (v := (10 : Int32)) X dX11_stander_64 (by decide) ?_
      refine j_idiv X dX11_stander_66 (by decide) ?_
      obtain ⟨c7, hf⟩ := oi_in hf
      obtain ⟨μ8, e_μ8, hf⟩ := bd_e hf
      refine j_iast X 24 (wX_24 ..) c7 dX11_stander_67 (ws' := (wX E h g μ8)) (by rw [e_μ8]; exact wX_s24 ..) ?_
      refine j_aload_n X dX11_stander_68 rfl rfl ?_
      refine j_get (C := RX11) (T := TX11) (N := 10) X iX11 0 (wX_0 ..) rfl 0 (by decide) k_310 rfl rfl dX11_stander_69 ?_
      refine j_get (C := RX5) (T := TX5) (N := 8) X iX5 1 (wX_1 ..) rfl 2 (by decide) k_239 rfl rfl dX11_stander_72 ?_
      refine j_get (C := RX4) (T := TX4) (N := 10) X iX4 23 (wX_23 ..) rfl 1 (by decide) k_195 rfl rfl dX11_stander_75 ?_
      refine j_iload_n X dX11_stander_78 rfl rfl ?_
      refine j_iload_n X dX11_stander_79 rfl rfl ?_
      refine j_bipush (v := (10 : Int32)) X dX11_stander_80 (by decide) ?_
      refine j_irem X dX11_stander_82 (by decide) ?_
      obtain ⟨c9, hf⟩ := oi_in hf
      obtain ⟨μ10, e_μ10, hf⟩ := bd_e hf
      refine j_iast X 25 (wX_25 ..) c9 dX11_stander_83 (ws' := (wX E h g μ10)) (by rw [e_μ10]; exact wX_s25 ..) ?_
      refine j_iload_n X dX11_stander_84 rfl rfl ?_
      obtain rfl := Option.some.inj hf
      exact j_iret X hr hlk rfl dX11_stander_85 hQ
    · replace hf := (if_pos c_14).symm.trans hf
      refine j_aload_n X dX11_stander_17 rfl rfl ?_
      refine j_iconst (v := (1 : Int32)) X dX11_stander_18 (by decide) ?_
      obtain ⟨q11, g_q11, hf⟩ := ob_t hf
      refine j_callV X [0, 1, 2, 3, 4, 5, 6, 7, 8, 9, 10, 11, 12, 13, 14, 15, 16, 17, 18, 19, 20, 21, 22, 23, 24, 25, 26, 27, 28, 29, 30, 31, 32, 33, 34, 35, 36, 37, 38, 39, 40, 41, 42, 43, 44, 45, 46, 47, 48, 49, 50, 51, 52, 53, 54, 55, 56, 57, 58, 59, 60, 61, 62, 63, 64, 65, 66, 67, 68, 69, 70, 71, 72, 73, 74, 75, 76, 77, 78, 79, 80, 81, 82, 83, 84] 0 (c_X11_fails E h g g_q11) (cut_wX_wX_c ..) rfl rfl (ws' := (wX E h g q11.1)) (cut_wX_wX_w ..) (wX_0 ..) rfl k_351 k_353 k_0 k_68 k_354 (⟨rfl, rfl⟩) hdV_X11_fails ⟨Nat.le_of_ble_eq_true rfl, Nat.le_of_ble_eq_true rfl⟩ rfl (Nat.le_of_ble_eq_true rfl) rfl dX11_stander_19 ?_
      obtain rfl := Option.some.inj hf
      exact j_iret X hr hlk rfl dX11_stander_22 hQ
theorem cut_wX_wR_23_24_25_c (E : Ev) (h : Nat → Nat) (g : Nat → Option Nat) (μ : Mem) : ([23, 24, 25, 26, 27, 28, 7, 8, 9, 10, 11, 12, 13, 14, 66, 67, 68, 69, 70, 71, 72, 73] : List Nat).map (fun i => (wX E h g μ)[i]?) = (wR E (fun j => h (List.getD [23, 24, 25, 26, 27, 28, 7, 8, 9, 10, 11, 12, 13, 14, 66, 67, 68, 69, 70, 71, 72, 73] j 0)) (fun j => g (List.getD [0, 1] j 0)) (sub [23, 24, 25, 26, 27, 28, 7, 8, 9, 10, 11, 12, 13, 14, 66, 67, 68, 69, 70, 71, 72, 73] μ)).map some := rfl
theorem cut_wX_wR_23_24_25_w (E : Ev) (h : Nat → Nat) (g : Nat → Option Nat) (μ : Mem) (ν : Mem) : putW (wX E h g μ) [23, 24, 25, 26, 27, 28, 7, 8, 9, 10, 11, 12, 13, 14, 66, 67, 68, 69, 70, 71, 72, 73] (wR E (fun j => h (List.getD [23, 24, 25, 26, 27, 28, 7, 8, 9, 10, 11, 12, 13, 14, 66, 67, 68, 69, 70, 71, 72, 73] j 0)) (fun j => g (List.getD [0, 1] j 0)) ν) = wX E h g (put [23, 24, 25, 26, 27, 28, 7, 8, 9, 10, 11, 12, 13, 14, 66, 67, 68, 69, 70, 71, 72, 73] μ ν) := putW_A (by decide +kernel) rfl rfl
def f_X11_standerIs (μ : Mem) (x1 : Int32) (x2 : Int32) : Option (Mem × Int32) := (f_X11_isStander x1).bind fun q1 => ((if q1 = 0 then (f_X11_fails μ (1 : Int32)).bind fun q2 => (some (q2.1, q2.2)) else (f_X11_within x2 (0 : Int32) (6 : Int32)).bind fun q3 => ((if q3 = 0 then (f_X11_fails μ (1 : Int32)).bind fun q12 => (some (q12.1, q12.2)) else (if x2 = (0 : Int32) then (if inb x1 9 = true then some (μ, (μ 24 x1.toNatClampNeg)) else none) else (if x2 = (1 : Int32) then (if inb x1 9 = true then some (μ, (μ 25 x1.toNatClampNeg)) else none) else (if x2 = (5 : Int32) then (f_X4_spends (sub [23, 24, 25, 26, 27, 28, 7, 8, 9, 10, 11, 12, 13, 14, 66, 67, 68, 69, 70, 71, 72, 73] μ) x1).bind fun q6 => (bd (put [23, 24, 25, 26, 27, 28, 7, 8, 9, 10, 11, 12, 13, 14, 66, 67, 68, 69, 70, 71, 72, 73] μ q6.1) fun μ7 => (some (μ7, q6.2))) else (if x2 = (6 : Int32) then (f_X4_bite (sub [23, 24, 25, 26, 27, 28, 7, 8, 9, 10, 11, 12, 13, 14, 66, 67, 68, 69, 70, 71, 72, 73] μ) x1).bind fun q8 => (bd (put [23, 24, 25, 26, 27, 28, 7, 8, 9, 10, 11, 12, 13, 14, 66, 67, 68, 69, 70, 71, 72, 73] μ q8.1) fun μ9 => (some (μ9, q8.2))) else (f_X4_is (sub [23, 24, 25, 26, 27, 28, 7, 8, 9, 10, 11, 12, 13, 14, 66, 67, 68, 69, 70, 71, 72, 73] μ) x1 x2).bind fun q10 => (bd (put [23, 24, 25, 26, 27, 28, 7, 8, 9, 10, 11, 12, 13, 14, 66, 67, 68, 69, 70, 71, 72, 73] μ q10.1) fun μ11 => (some (μ11, q10.2)))))))))))
set_option maxHeartbeats 4000000 in
set_option maxRecDepth 20000 in
theorem c_X11_standerIs (E : Ev) (h : Nat → Nat) (g : Nat → Option Nat) {μ : Mem} {x1 : Int32} {x2 : Int32} {r : (Mem × Int32)} (hf : f_X11_standerIs μ x1 x2 = some r) : Ct E yX11_standerIs cX11_standerIs 3 (some .int) (rmOf 4 92) (wX E h g μ) (wX E h g r.1) [.ref (h 0), .int x1, .int x2] (some (.int r.2)) := by
  refine ct_start RX11 0 (by decide) rfl (Nat.le_of_ble_eq_true rfl) ?_
  intro p l e s m args below meth c A Q X hr hlk hQ
  rw [f_X11_standerIs] at hf
  refine j_iload_n X dX11_standerIs_0 rfl rfl ?_
  obtain ⟨q1, g_q1, hf⟩ := ob_t hf
  refine j_callS X [] (c_X11_isStander E g_q1) rfl rfl rfl (ws' := (wX E h g μ)) rfl k_345 k_346 k_68 k_347 (⟨rfl, rfl⟩) hdS_X11_isStander ⟨Nat.le_of_ble_eq_true rfl, Nat.le_of_ble_eq_true rfl⟩ rfl (Nat.le_of_ble_eq_true rfl) rfl dX11_standerIs_1 ?_
  refine j_if_eq (tgt := 17) X dX11_standerIs_4 (by decide) (fun c_4 => ?_) (fun c_4 => ?_)
  · replace hf := (if_pos c_4).symm.trans hf
    refine j_aload_n X dX11_standerIs_17 rfl rfl ?_
    refine j_iconst (v := (1 : Int32)) X dX11_standerIs_18 (by decide) ?_
    obtain ⟨q2, g_q2, hf⟩ := ob_t hf
    refine j_callV X [0, 1, 2, 3, 4, 5, 6, 7, 8, 9, 10, 11, 12, 13, 14, 15, 16, 17, 18, 19, 20, 21, 22, 23, 24, 25, 26, 27, 28, 29, 30, 31, 32, 33, 34, 35, 36, 37, 38, 39, 40, 41, 42, 43, 44, 45, 46, 47, 48, 49, 50, 51, 52, 53, 54, 55, 56, 57, 58, 59, 60, 61, 62, 63, 64, 65, 66, 67, 68, 69, 70, 71, 72, 73, 74, 75, 76, 77, 78, 79, 80, 81, 82, 83, 84] 0 (c_X11_fails E h g g_q2) (cut_wX_wX_c ..) rfl rfl (ws' := (wX E h g q2.1)) (cut_wX_wX_w ..) (wX_0 ..) rfl k_351 k_353 k_0 k_68 k_354 (⟨rfl, rfl⟩) hdV_X11_fails ⟨Nat.le_of_ble_eq_true rfl, Nat.le_of_ble_eq_true rfl⟩ rfl (Nat.le_of_ble_eq_true rfl) rfl dX11_standerIs_19 ?_
    obtain rfl := Option.some.inj hf
    exact j_iret X hr hlk rfl dX11_standerIs_22 hQ
  · replace hf := (if_neg c_4).symm.trans hf
    refine j_iload_n X dX11_standerIs_7 rfl rfl ?_
    refine j_iconst (v := (0 : Int32)) X dX11_standerIs_8 (by decide) ?_
    refine j_bipush (v := (6 : Int32)) X dX11_standerIs_9 (by decide) ?_
    obtain ⟨q3, g_q3, hf⟩ := ob_t hf
    refine j_callS X [] (c_X11_within E g_q3) rfl rfl rfl (ws' := (wX E h g μ)) rfl k_348 k_349 k_68 k_350 (⟨rfl, rfl⟩) hdS_X11_within ⟨Nat.le_of_ble_eq_true rfl, Nat.le_of_ble_eq_true rfl⟩ rfl (Nat.le_of_ble_eq_true rfl) rfl dX11_standerIs_11 ?_
    refine j_if_ne (tgt := 23) X dX11_standerIs_14 (by decide) (fun c_14 => ?_) (fun c_14 => ?_)
    · replace hf := (if_neg c_14).symm.trans hf
      refine j_iload_n X dX11_standerIs_23 rfl rfl ?_
      by_cases n_24_0 : x2 = (0 : Int32)
      · replace hf := (if_pos n_24_0).symm.trans hf
        refine j_tsI (k := (0 : Int32)) (tgt := 68) X n_24_0 dX11_standerIs_24 (by decide) (by decide) rfl (by decide) ?_
        refine j_aload_n X dX11_standerIs_68 rfl rfl ?_
        refine j_get (C := RX11) (T := TX11) (N := 10) X iX11 0 (wX_0 ..) rfl 0 (by decide) k_310 rfl rfl dX11_standerIs_69 ?_
        refine j_get (C := RX5) (T := TX5) (N := 8) X iX5 1 (wX_1 ..) rfl 2 (by decide) k_239 rfl rfl dX11_standerIs_72 ?_
        refine j_get (C := RX4) (T := TX4) (N := 10) X iX4 23 (wX_23 ..) rfl 0 (by decide) k_190 rfl rfl dX11_standerIs_75 ?_
        refine j_iload_n X dX11_standerIs_78 rfl rfl ?_
        obtain ⟨c4, hf⟩ := oi_in hf
        refine j_iald X 24 (wX_24 ..) c4 dX11_standerIs_79 ?_
        obtain rfl := Option.some.inj hf
        exact j_iret X hr hlk rfl dX11_standerIs_80 hQ
      · replace hf := (if_neg n_24_0).symm.trans hf
        by_cases n_24_1 : x2 = (1 : Int32)
        · replace hf := (if_pos n_24_1).symm.trans hf
          refine j_tsI (k := (1 : Int32)) (tgt := 81) X n_24_1 dX11_standerIs_24 (by decide) (by decide) rfl (by decide) ?_
          refine j_aload_n X dX11_standerIs_81 rfl rfl ?_
          refine j_get (C := RX11) (T := TX11) (N := 10) X iX11 0 (wX_0 ..) rfl 0 (by decide) k_310 rfl rfl dX11_standerIs_82 ?_
          refine j_get (C := RX5) (T := TX5) (N := 8) X iX5 1 (wX_1 ..) rfl 2 (by decide) k_239 rfl rfl dX11_standerIs_85 ?_
          refine j_get (C := RX4) (T := TX4) (N := 10) X iX4 23 (wX_23 ..) rfl 1 (by decide) k_195 rfl rfl dX11_standerIs_88 ?_
          refine j_iload_n X dX11_standerIs_91 rfl rfl ?_
          obtain ⟨c5, hf⟩ := oi_in hf
          refine j_iald X 25 (wX_25 ..) c5 dX11_standerIs_92 ?_
          obtain rfl := Option.some.inj hf
          exact j_iret X hr hlk rfl dX11_standerIs_93 hQ
        · replace hf := (if_neg n_24_1).symm.trans hf
          by_cases n_24_2 : x2 = (5 : Int32)
          · replace hf := (if_pos n_24_2).symm.trans hf
            refine j_tsI (k := (5 : Int32)) (tgt := 94) X n_24_2 dX11_standerIs_24 (by decide) (by decide) rfl (by decide) ?_
            refine j_aload_n X dX11_standerIs_94 rfl rfl ?_
            refine j_get (C := RX11) (T := TX11) (N := 10) X iX11 0 (wX_0 ..) rfl 0 (by decide) k_310 rfl rfl dX11_standerIs_95 ?_
            refine j_get (C := RX5) (T := TX5) (N := 8) X iX5 1 (wX_1 ..) rfl 2 (by decide) k_239 rfl rfl dX11_standerIs_98 ?_
            refine j_iload_n X dX11_standerIs_101 rfl rfl ?_
            obtain ⟨q6, g_q6, hf⟩ := ob_t hf
            obtain ⟨μ7, e_μ7, hf⟩ := bd_e hf
            refine j_callV X [23, 24, 25, 26, 27, 28, 7, 8, 9, 10, 11, 12, 13, 14, 66, 67, 68, 69, 70, 71, 72, 73] 0 (c_X4_spends E (fun j => h (List.getD [23, 24, 25, 26, 27, 28, 7, 8, 9, 10, 11, 12, 13, 14, 66, 67, 68, 69, 70, 71, 72, 73] j 0)) (fun j => g (List.getD [0, 1] j 0)) g_q6) (cut_wX_wR_23_24_25_c ..) rfl rfl (ws' := (wX E h g μ7)) (by rw [e_μ7]; exact cut_wX_wR_23_24_25_w ..) (wR_0 ..) rfl k_360 k_361 k_362 k_78 k_363 (⟨rfl, rfl⟩) hdV_X4_spends ⟨Nat.le_of_ble_eq_true rfl, Nat.le_of_ble_eq_true rfl⟩ rfl (Nat.le_of_ble_eq_true rfl) rfl dX11_standerIs_102 ?_
            obtain rfl := Option.some.inj hf
            exact j_iret X hr hlk rfl dX11_standerIs_105 hQ
          · replace hf := (if_neg n_24_2).symm.trans hf
            by_cases n_24_3 : x2 = (6 : Int32)
            · replace hf := (if_pos n_24_3).symm.trans hf
              refine j_tsI (k := (6 : Int32)) (tgt := 106) X n_24_3 dX11_standerIs_24 (by decide) (by decide) rfl (by decide) ?_
              refine j_aload_n X dX11_standerIs_106 rfl rfl ?_
              refine j_get (C := RX11) (T := TX11) (N := 10) X iX11 0 (wX_0 ..) rfl 0 (by decide) k_310 rfl rfl dX11_standerIs_107 ?_
              refine j_get (C := RX5) (T := TX5) (N := 8) X iX5 1 (wX_1 ..) rfl 2 (by decide) k_239 rfl rfl dX11_standerIs_110 ?_
              refine j_iload_n X dX11_standerIs_113 rfl rfl ?_
              obtain ⟨q8, g_q8, hf⟩ := ob_t hf
              obtain ⟨μ9, e_μ9, hf⟩ := bd_e hf
              refine j_callV X [23, 24, 25, 26, 27, 28, 7, 8, 9, 10, 11, 12, 13, 14, 66, 67, 68, 69, 70, 71, 72, 73] 0 (c_X4_bite E (fun j => h (List.getD [23, 24, 25, 26, 27, 28, 7, 8, 9, 10, 11, 12, 13, 14, 66, 67, 68, 69, 70, 71, 72, 73] j 0)) (fun j => g (List.getD [0, 1] j 0)) g_q8) (cut_wX_wR_23_24_25_c ..) rfl rfl (ws' := (wX E h g μ9)) (by rw [e_μ9]; exact cut_wX_wR_23_24_25_w ..) (wR_0 ..) rfl k_410 k_411 k_412 k_78 k_413 (⟨rfl, rfl⟩) hdV_X4_bite ⟨Nat.le_of_ble_eq_true rfl, Nat.le_of_ble_eq_true rfl⟩ rfl (Nat.le_of_ble_eq_true rfl) rfl dX11_standerIs_114 ?_
              obtain rfl := Option.some.inj hf
              exact j_iret X hr hlk rfl dX11_standerIs_117 hQ
            · replace hf := (if_neg n_24_3).symm.trans hf
              refine j_tsD (tgt := 118) X [0, 1, 5, 6] (List.forall_mem_cons.mpr ⟨lv_neT n_24_0 (a := 0) rfl, List.forall_mem_cons.mpr ⟨lv_neT n_24_1 (a := 1) rfl, List.forall_mem_cons.mpr ⟨lv_neT n_24_2 (a := 5) rfl, List.forall_mem_cons.mpr ⟨lv_neT n_24_3 (a := 6) rfl, fun _ h => by cases h⟩⟩⟩⟩) (by decide) (by decide) dX11_standerIs_24 (by decide) ?_
              refine j_aload_n X dX11_standerIs_118 rfl rfl ?_
              refine j_get (C := RX11) (T := TX11) (N := 10) X iX11 0 (wX_0 ..) rfl 0 (by decide) k_310 rfl rfl dX11_standerIs_119 ?_
              refine j_get (C := RX5) (T := TX5) (N := 8) X iX5 1 (wX_1 ..) rfl 2 (by decide) k_239 rfl rfl dX11_standerIs_122 ?_
              refine j_iload_n X dX11_standerIs_125 rfl rfl ?_
              refine j_iload_n X dX11_standerIs_126 rfl rfl ?_
              obtain ⟨q10, g_q10, hf⟩ := ob_t hf
              obtain ⟨μ11, e_μ11, hf⟩ := bd_e hf
              refine j_callV X [23, 24, 25, 26, 27, 28, 7, 8, 9, 10, 11, 12, 13, 14, 66, 67, 68, 69, 70, 71, 72, 73] 0 (c_X4_is E (fun j => h (List.getD [23, 24, 25, 26, 27, 28, 7, 8, 9, 10, 11, 12, 13, 14, 66, 67, 68, 69, 70, 71, 72, 73] j 0)) (fun j => g (List.getD [0, 1] j 0)) g_q10) (cut_wX_wR_23_24_25_c ..) rfl rfl (ws' := (wX E h g μ11)) (by rw [e_μ11]; exact cut_wX_wR_23_24_25_w ..) (wR_0 ..) rfl k_438 k_439 k_440 k_78 k_441 (⟨rfl, rfl⟩) hdV_X4_is ⟨Nat.le_of_ble_eq_true rfl, Nat.le_of_ble_eq_true rfl⟩ rfl (Nat.le_of_ble_eq_true rfl) rfl dX11_standerIs_127 ?_
              obtain rfl := Option.some.inj hf
              exact j_iret X hr hlk rfl dX11_standerIs_130 hQ
    · replace hf := (if_pos c_14).symm.trans hf
      refine j_aload_n X dX11_standerIs_17 rfl rfl ?_
      refine j_iconst (v := (1 : Int32)) X dX11_standerIs_18 (by decide) ?_
      obtain ⟨q12, g_q12, hf⟩ := ob_t hf
      refine j_callV X [0, 1, 2, 3, 4, 5, 6, 7, 8, 9, 10, 11, 12, 13, 14, 15, 16, 17, 18, 19, 20, 21, 22, 23, 24, 25, 26, 27, 28, 29, 30, 31, 32, 33, 34, 35, 36, 37, 38, 39, 40, 41, 42, 43, 44, 45, 46, 47, 48, 49, 50, 51, 52, 53, 54, 55, 56, 57, 58, 59, 60, 61, 62, 63, 64, 65, 66, 67, 68, 69, 70, 71, 72, 73, 74, 75, 76, 77, 78, 79, 80, 81, 82, 83, 84] 0 (c_X11_fails E h g g_q12) (cut_wX_wX_c ..) rfl rfl (ws' := (wX E h g q12.1)) (cut_wX_wX_w ..) (wX_0 ..) rfl k_351 k_353 k_0 k_68 k_354 (⟨rfl, rfl⟩) hdV_X11_fails ⟨Nat.le_of_ble_eq_true rfl, Nat.le_of_ble_eq_true rfl⟩ rfl (Nat.le_of_ble_eq_true rfl) rfl dX11_standerIs_19 ?_
      obtain rfl := Option.some.inj hf
      exact j_iret X hr hlk rfl dX11_standerIs_22 hQ
def f_X11_isOf_k0 (μ : Mem) (x1 : Int32) : Option (Mem × Int32) := (if x1 = (1 : Int32) then some (μ, (0 : Int32)) else (if x1 = (2 : Int32) then some (μ, (0 : Int32)) else (if x1 = (3 : Int32) then some (μ, (0 : Int32)) else (if x1 = (4 : Int32) then some (μ, (0 : Int32)) else (if x1 = (5 : Int32) then some (μ, (0 : Int32)) else (if x1 = (6 : Int32) then some (μ, (0 : Int32)) else (if x1 = 0 then some (μ, (1 : Int32)) else some (μ, (0 : Int32)))))))))
set_option maxHeartbeats 4000000 in
set_option maxRecDepth 20000 in
theorem c_X11_isOf_k0 (tn tt : Nat) (E : Ev) (h : Nat → Nat) (g : Nat → Option Nat) {μ : Mem} {x1 : Int32} {r : (Mem × Int32)} (hf : f_X11_isOf_k0 μ x1 = some r) : CtF tn tt E yX11_isOf cX11_isOf 2 (some .boolean) (rmOf 0 0) (wK E h g μ) (wK E h g r.1) [.ref (h 0), .int x1] (some (.int r.2)) := by
  refine ctF_start RX11 0 (by decide) rfl (Nat.le_of_ble_eq_true rfl) ?_
  intro p l e s m args below meth c A Q X F hr hlk hQ
  rw [f_X11_isOf_k0] at hf
  refine j_iload_n X dX11_isOf_0 rfl rfl ?_
  by_cases n_1_0 : x1 = (1 : Int32)
  · replace hf := (if_pos n_1_0).symm.trans hf
    refine j_tsI (k := (1 : Int32)) (tgt := 40) X n_1_0 dX11_isOf_1 (by decide) (by decide) rfl (by decide) ?_
    refine j_aload_n X dX11_isOf_40 rfl rfl ?_
    refine j_inN X F 0 (wK_0 ..) rfl k_100 (by decide +kernel) dX11_isOf_41 ?_
    obtain rfl := Option.some.inj hf
    exact j_iret X hr hlk rfl dX11_isOf_44 hQ
  · replace hf := (if_neg n_1_0).symm.trans hf
    by_cases n_1_1 : x1 = (2 : Int32)
    · replace hf := (if_pos n_1_1).symm.trans hf
      refine j_tsI (k := (2 : Int32)) (tgt := 45) X n_1_1 dX11_isOf_1 (by decide) (by decide) rfl (by decide) ?_
      refine j_aload_n X dX11_isOf_45 rfl rfl ?_
      refine j_inN X F 0 (wK_0 ..) rfl k_107 (by decide +kernel) dX11_isOf_46 ?_
      obtain rfl := Option.some.inj hf
      exact j_iret X hr hlk rfl dX11_isOf_49 hQ
    · replace hf := (if_neg n_1_1).symm.trans hf
      by_cases n_1_2 : x1 = (3 : Int32)
      · replace hf := (if_pos n_1_2).symm.trans hf
        refine j_tsI (k := (3 : Int32)) (tgt := 50) X n_1_2 dX11_isOf_1 (by decide) (by decide) rfl (by decide) ?_
        refine j_aload_n X dX11_isOf_50 rfl rfl ?_
        refine j_inN X F 0 (wK_0 ..) rfl k_114 (by decide +kernel) dX11_isOf_51 ?_
        obtain rfl := Option.some.inj hf
        exact j_iret X hr hlk rfl dX11_isOf_54 hQ
      · replace hf := (if_neg n_1_2).symm.trans hf
        by_cases n_1_3 : x1 = (4 : Int32)
        · replace hf := (if_pos n_1_3).symm.trans hf
          refine j_tsI (k := (4 : Int32)) (tgt := 55) X n_1_3 dX11_isOf_1 (by decide) (by decide) rfl (by decide) ?_
          refine j_aload_n X dX11_isOf_55 rfl rfl ?_
          refine j_inN X F 0 (wK_0 ..) rfl k_121 (by decide +kernel) dX11_isOf_56 ?_
          obtain rfl := Option.some.inj hf
          exact j_iret X hr hlk rfl dX11_isOf_59 hQ
        · replace hf := (if_neg n_1_3).symm.trans hf
          by_cases n_1_4 : x1 = (5 : Int32)
          · replace hf := (if_pos n_1_4).symm.trans hf
            refine j_tsI (k := (5 : Int32)) (tgt := 60) X n_1_4 dX11_isOf_1 (by decide) (by decide) rfl (by decide) ?_
            refine j_aload_n X dX11_isOf_60 rfl rfl ?_
            refine j_inN X F 0 (wK_0 ..) rfl k_128 (by decide +kernel) dX11_isOf_61 ?_
            obtain rfl := Option.some.inj hf
            exact j_iret X hr hlk rfl dX11_isOf_64 hQ
          · replace hf := (if_neg n_1_4).symm.trans hf
            by_cases n_1_5 : x1 = (6 : Int32)
            · replace hf := (if_pos n_1_5).symm.trans hf
              refine j_tsI (k := (6 : Int32)) (tgt := 65) X n_1_5 dX11_isOf_1 (by decide) (by decide) rfl (by decide) ?_
              refine j_aload_n X dX11_isOf_65 rfl rfl ?_
              refine j_inN X F 0 (wK_0 ..) rfl k_135 (by decide +kernel) dX11_isOf_66 ?_
              obtain rfl := Option.some.inj hf
              exact j_iret X hr hlk rfl dX11_isOf_69 hQ
            · replace hf := (if_neg n_1_5).symm.trans hf
              refine j_tsD (tgt := 70) X [1, 2, 3, 4, 5, 6] (List.forall_mem_cons.mpr ⟨lv_neT n_1_0 (a := 1) rfl, List.forall_mem_cons.mpr ⟨lv_neT n_1_1 (a := 2) rfl, List.forall_mem_cons.mpr ⟨lv_neT n_1_2 (a := 3) rfl, List.forall_mem_cons.mpr ⟨lv_neT n_1_3 (a := 4) rfl, List.forall_mem_cons.mpr ⟨lv_neT n_1_4 (a := 5) rfl, List.forall_mem_cons.mpr ⟨lv_neT n_1_5 (a := 6) rfl, fun _ h => by cases h⟩⟩⟩⟩⟩⟩) (by decide) (by decide) dX11_isOf_1 (by decide) ?_
              refine j_iload_n X dX11_isOf_70 rfl rfl ?_
              refine j_if_ne (tgt := 78) X dX11_isOf_71 (by decide) (fun c_71 => ?_) (fun c_71 => ?_)
              · replace hf := (if_neg c_71).symm.trans hf
                refine j_iconst (v := (0 : Int32)) X dX11_isOf_78 (by decide) ?_
                obtain rfl := Option.some.inj hf
                exact j_iret X hr hlk rfl dX11_isOf_79 hQ
              · replace hf := (if_pos c_71).symm.trans hf
                refine j_iconst (v := (1 : Int32)) X dX11_isOf_74 (by decide) ?_
                refine j_goto (tgt := 79) X dX11_isOf_75 (by decide) ?_
                obtain rfl := Option.some.inj hf
                exact j_iret X hr hlk rfl dX11_isOf_79 hQ
theorem cut_wX_wK_67_68_69_c (E : Ev) (h : Nat → Nat) (g : Nat → Option Nat) (μ : Mem) : ([67, 68, 69, 70, 71, 72, 73] : List Nat).map (fun i => (wX E h g μ)[i]?) = (wK E (fun j => h (List.getD [67, 68, 69, 70, 71, 72, 73] j 0)) (fun j => g (List.getD ([] : List Nat) j 0)) (sub [67, 68, 69, 70, 71, 72, 73] μ)).map some := rfl
theorem cut_wX_wK_67_68_69_w (E : Ev) (h : Nat → Nat) (g : Nat → Option Nat) (μ : Mem) (ν : Mem) : putW (wX E h g μ) [67, 68, 69, 70, 71, 72, 73] (wK E (fun j => h (List.getD [67, 68, 69, 70, 71, 72, 73] j 0)) (fun j => g (List.getD ([] : List Nat) j 0)) ν) = wX E h g (put [67, 68, 69, 70, 71, 72, 73] μ ν) := putW_A (by decide +kernel) rfl rfl
def f_X11_isOf_k1 (μ : Mem) (x1 : Int32) : Option (Mem × Int32) := (if x1 = (1 : Int32) then some (μ, (1 : Int32)) else (if x1 = (2 : Int32) then some (μ, (0 : Int32)) else (if x1 = (3 : Int32) then some (μ, (0 : Int32)) else (if x1 = (4 : Int32) then some (μ, (0 : Int32)) else (if x1 = (5 : Int32) then some (μ, (0 : Int32)) else (if x1 = (6 : Int32) then some (μ, (0 : Int32)) else (if x1 = 0 then some (μ, (1 : Int32)) else some (μ, (0 : Int32)))))))))
set_option maxHeartbeats 4000000 in
set_option maxRecDepth 20000 in
theorem c_X11_isOf_k1 (tn tt : Nat) (E : Ev) (h : Nat → Nat) (g : Nat → Option Nat) {μ : Mem} {x1 : Int32} {r : (Mem × Int32)} (hf : f_X11_isOf_k1 μ x1 = some r) : CtF tn tt E yX11_isOf cX11_isOf 2 (some .boolean) (rmOf 0 0) (wK E h g μ) (wK E h g r.1) [.ref (h 1), .int x1] (some (.int r.2)) := by
  refine ctF_start RX11 0 (by decide) rfl (Nat.le_of_ble_eq_true rfl) ?_
  intro p l e s m args below meth c A Q X F hr hlk hQ
  rw [f_X11_isOf_k1] at hf
  refine j_iload_n X dX11_isOf_0 rfl rfl ?_
  by_cases n_1_0 : x1 = (1 : Int32)
  · replace hf := (if_pos n_1_0).symm.trans hf
    refine j_tsI (k := (1 : Int32)) (tgt := 40) X n_1_0 dX11_isOf_1 (by decide) (by decide) rfl (by decide) ?_
    refine j_aload_n X dX11_isOf_40 rfl rfl ?_
    refine j_inS X 1 (wK_1 ..) rfl k_100 dX11_isOf_41 ?_
    obtain rfl := Option.some.inj hf
    exact j_iret X hr hlk rfl dX11_isOf_44 hQ
  · replace hf := (if_neg n_1_0).symm.trans hf
    by_cases n_1_1 : x1 = (2 : Int32)
    · replace hf := (if_pos n_1_1).symm.trans hf
      refine j_tsI (k := (2 : Int32)) (tgt := 45) X n_1_1 dX11_isOf_1 (by decide) (by decide) rfl (by decide) ?_
      refine j_aload_n X dX11_isOf_45 rfl rfl ?_
      refine j_inN X F 1 (wK_1 ..) rfl k_107 (by decide +kernel) dX11_isOf_46 ?_
      obtain rfl := Option.some.inj hf
      exact j_iret X hr hlk rfl dX11_isOf_49 hQ
    · replace hf := (if_neg n_1_1).symm.trans hf
      by_cases n_1_2 : x1 = (3 : Int32)
      · replace hf := (if_pos n_1_2).symm.trans hf
        refine j_tsI (k := (3 : Int32)) (tgt := 50) X n_1_2 dX11_isOf_1 (by decide) (by decide) rfl (by decide) ?_
        refine j_aload_n X dX11_isOf_50 rfl rfl ?_
        refine j_inN X F 1 (wK_1 ..) rfl k_114 (by decide +kernel) dX11_isOf_51 ?_
        obtain rfl := Option.some.inj hf
        exact j_iret X hr hlk rfl dX11_isOf_54 hQ
      · replace hf := (if_neg n_1_2).symm.trans hf
        by_cases n_1_3 : x1 = (4 : Int32)
        · replace hf := (if_pos n_1_3).symm.trans hf
          refine j_tsI (k := (4 : Int32)) (tgt := 55) X n_1_3 dX11_isOf_1 (by decide) (by decide) rfl (by decide) ?_
          refine j_aload_n X dX11_isOf_55 rfl rfl ?_
          refine j_inN X F 1 (wK_1 ..) rfl k_121 (by decide +kernel) dX11_isOf_56 ?_
          obtain rfl := Option.some.inj hf
          exact j_iret X hr hlk rfl dX11_isOf_59 hQ
        · replace hf := (if_neg n_1_3).symm.trans hf
          by_cases n_1_4 : x1 = (5 : Int32)
          · replace hf := (if_pos n_1_4).symm.trans hf
            refine j_tsI (k := (5 : Int32)) (tgt := 60) X n_1_4 dX11_isOf_1 (by decide) (by decide) rfl (by decide) ?_
            refine j_aload_n X dX11_isOf_60 rfl rfl ?_
            refine j_inN X F 1 (wK_1 ..) rfl k_128 (by decide +kernel) dX11_isOf_61 ?_
            obtain rfl := Option.some.inj hf
            exact j_iret X hr hlk rfl dX11_isOf_64 hQ
          · replace hf := (if_neg n_1_4).symm.trans hf
            by_cases n_1_5 : x1 = (6 : Int32)
            · replace hf := (if_pos n_1_5).symm.trans hf
              refine j_tsI (k := (6 : Int32)) (tgt := 65) X n_1_5 dX11_isOf_1 (by decide) (by decide) rfl (by decide) ?_
              refine j_aload_n X dX11_isOf_65 rfl rfl ?_
              refine j_inN X F 1 (wK_1 ..) rfl k_135 (by decide +kernel) dX11_isOf_66 ?_
              obtain rfl := Option.some.inj hf
              exact j_iret X hr hlk rfl dX11_isOf_69 hQ
            · replace hf := (if_neg n_1_5).symm.trans hf
              refine j_tsD (tgt := 70) X [1, 2, 3, 4, 5, 6] (List.forall_mem_cons.mpr ⟨lv_neT n_1_0 (a := 1) rfl, List.forall_mem_cons.mpr ⟨lv_neT n_1_1 (a := 2) rfl, List.forall_mem_cons.mpr ⟨lv_neT n_1_2 (a := 3) rfl, List.forall_mem_cons.mpr ⟨lv_neT n_1_3 (a := 4) rfl, List.forall_mem_cons.mpr ⟨lv_neT n_1_4 (a := 5) rfl, List.forall_mem_cons.mpr ⟨lv_neT n_1_5 (a := 6) rfl, fun _ h => by cases h⟩⟩⟩⟩⟩⟩) (by decide) (by decide) dX11_isOf_1 (by decide) ?_
              refine j_iload_n X dX11_isOf_70 rfl rfl ?_
              refine j_if_ne (tgt := 78) X dX11_isOf_71 (by decide) (fun c_71 => ?_) (fun c_71 => ?_)
              · replace hf := (if_neg c_71).symm.trans hf
                refine j_iconst (v := (0 : Int32)) X dX11_isOf_78 (by decide) ?_
                obtain rfl := Option.some.inj hf
                exact j_iret X hr hlk rfl dX11_isOf_79 hQ
              · replace hf := (if_pos c_71).symm.trans hf
                refine j_iconst (v := (1 : Int32)) X dX11_isOf_74 (by decide) ?_
                refine j_goto (tgt := 79) X dX11_isOf_75 (by decide) ?_
                obtain rfl := Option.some.inj hf
                exact j_iret X hr hlk rfl dX11_isOf_79 hQ
def f_X11_isOf_k2 (μ : Mem) (x1 : Int32) : Option (Mem × Int32) := (if x1 = (1 : Int32) then some (μ, (0 : Int32)) else (if x1 = (2 : Int32) then some (μ, (1 : Int32)) else (if x1 = (3 : Int32) then some (μ, (0 : Int32)) else (if x1 = (4 : Int32) then some (μ, (0 : Int32)) else (if x1 = (5 : Int32) then some (μ, (0 : Int32)) else (if x1 = (6 : Int32) then some (μ, (0 : Int32)) else (if x1 = 0 then some (μ, (1 : Int32)) else some (μ, (0 : Int32)))))))))
set_option maxHeartbeats 4000000 in
set_option maxRecDepth 20000 in
theorem c_X11_isOf_k2 (tn tt : Nat) (E : Ev) (h : Nat → Nat) (g : Nat → Option Nat) {μ : Mem} {x1 : Int32} {r : (Mem × Int32)} (hf : f_X11_isOf_k2 μ x1 = some r) : CtF tn tt E yX11_isOf cX11_isOf 2 (some .boolean) (rmOf 0 0) (wK E h g μ) (wK E h g r.1) [.ref (h 2), .int x1] (some (.int r.2)) := by
  refine ctF_start RX11 0 (by decide) rfl (Nat.le_of_ble_eq_true rfl) ?_
  intro p l e s m args below meth c A Q X F hr hlk hQ
  rw [f_X11_isOf_k2] at hf
  refine j_iload_n X dX11_isOf_0 rfl rfl ?_
  by_cases n_1_0 : x1 = (1 : Int32)
  · replace hf := (if_pos n_1_0).symm.trans hf
    refine j_tsI (k := (1 : Int32)) (tgt := 40) X n_1_0 dX11_isOf_1 (by decide) (by decide) rfl (by decide) ?_
    refine j_aload_n X dX11_isOf_40 rfl rfl ?_
    refine j_inN X F 2 (wK_2 ..) rfl k_100 (by decide +kernel) dX11_isOf_41 ?_
    obtain rfl := Option.some.inj hf
    exact j_iret X hr hlk rfl dX11_isOf_44 hQ
  · replace hf := (if_neg n_1_0).symm.trans hf
    by_cases n_1_1 : x1 = (2 : Int32)
    · replace hf := (if_pos n_1_1).symm.trans hf
      refine j_tsI (k := (2 : Int32)) (tgt := 45) X n_1_1 dX11_isOf_1 (by decide) (by decide) rfl (by decide) ?_
      refine j_aload_n X dX11_isOf_45 rfl rfl ?_
      refine j_inS X 2 (wK_2 ..) rfl k_107 dX11_isOf_46 ?_
      obtain rfl := Option.some.inj hf
      exact j_iret X hr hlk rfl dX11_isOf_49 hQ
    · replace hf := (if_neg n_1_1).symm.trans hf
      by_cases n_1_2 : x1 = (3 : Int32)
      · replace hf := (if_pos n_1_2).symm.trans hf
        refine j_tsI (k := (3 : Int32)) (tgt := 50) X n_1_2 dX11_isOf_1 (by decide) (by decide) rfl (by decide) ?_
        refine j_aload_n X dX11_isOf_50 rfl rfl ?_
        refine j_inN X F 2 (wK_2 ..) rfl k_114 (by decide +kernel) dX11_isOf_51 ?_
        obtain rfl := Option.some.inj hf
        exact j_iret X hr hlk rfl dX11_isOf_54 hQ
      · replace hf := (if_neg n_1_2).symm.trans hf
        by_cases n_1_3 : x1 = (4 : Int32)
        · replace hf := (if_pos n_1_3).symm.trans hf
          refine j_tsI (k := (4 : Int32)) (tgt := 55) X n_1_3 dX11_isOf_1 (by decide) (by decide) rfl (by decide) ?_
          refine j_aload_n X dX11_isOf_55 rfl rfl ?_
          refine j_inN X F 2 (wK_2 ..) rfl k_121 (by decide +kernel) dX11_isOf_56 ?_
          obtain rfl := Option.some.inj hf
          exact j_iret X hr hlk rfl dX11_isOf_59 hQ
        · replace hf := (if_neg n_1_3).symm.trans hf
          by_cases n_1_4 : x1 = (5 : Int32)
          · replace hf := (if_pos n_1_4).symm.trans hf
            refine j_tsI (k := (5 : Int32)) (tgt := 60) X n_1_4 dX11_isOf_1 (by decide) (by decide) rfl (by decide) ?_
            refine j_aload_n X dX11_isOf_60 rfl rfl ?_
            refine j_inN X F 2 (wK_2 ..) rfl k_128 (by decide +kernel) dX11_isOf_61 ?_
            obtain rfl := Option.some.inj hf
            exact j_iret X hr hlk rfl dX11_isOf_64 hQ
          · replace hf := (if_neg n_1_4).symm.trans hf
            by_cases n_1_5 : x1 = (6 : Int32)
            · replace hf := (if_pos n_1_5).symm.trans hf
              refine j_tsI (k := (6 : Int32)) (tgt := 65) X n_1_5 dX11_isOf_1 (by decide) (by decide) rfl (by decide) ?_
              refine j_aload_n X dX11_isOf_65 rfl rfl ?_
              refine j_inN X F 2 (wK_2 ..) rfl k_135 (by decide +kernel) dX11_isOf_66 ?_
              obtain rfl := Option.some.inj hf
              exact j_iret X hr hlk rfl dX11_isOf_69 hQ
            · replace hf := (if_neg n_1_5).symm.trans hf
              refine j_tsD (tgt := 70) X [1, 2, 3, 4, 5, 6] (List.forall_mem_cons.mpr ⟨lv_neT n_1_0 (a := 1) rfl, List.forall_mem_cons.mpr ⟨lv_neT n_1_1 (a := 2) rfl, List.forall_mem_cons.mpr ⟨lv_neT n_1_2 (a := 3) rfl, List.forall_mem_cons.mpr ⟨lv_neT n_1_3 (a := 4) rfl, List.forall_mem_cons.mpr ⟨lv_neT n_1_4 (a := 5) rfl, List.forall_mem_cons.mpr ⟨lv_neT n_1_5 (a := 6) rfl, fun _ h => by cases h⟩⟩⟩⟩⟩⟩) (by decide) (by decide) dX11_isOf_1 (by decide) ?_
              refine j_iload_n X dX11_isOf_70 rfl rfl ?_
              refine j_if_ne (tgt := 78) X dX11_isOf_71 (by decide) (fun c_71 => ?_) (fun c_71 => ?_)
              · replace hf := (if_neg c_71).symm.trans hf
                refine j_iconst (v := (0 : Int32)) X dX11_isOf_78 (by decide) ?_
                obtain rfl := Option.some.inj hf
                exact j_iret X hr hlk rfl dX11_isOf_79 hQ
              · replace hf := (if_pos c_71).symm.trans hf
                refine j_iconst (v := (1 : Int32)) X dX11_isOf_74 (by decide) ?_
                refine j_goto (tgt := 79) X dX11_isOf_75 (by decide) ?_
                obtain rfl := Option.some.inj hf
                exact j_iret X hr hlk rfl dX11_isOf_79 hQ
