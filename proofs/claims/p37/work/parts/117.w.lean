def f_X11_stand (μ : Mem) (x1 : Int32) (x2 : Int32) (x3 : Int32) : Option (Mem × Int32) := (if x3 < 0 then some (μ, (0 : Int32)) else (if x2 < 0 then some (μ, (0 : Int32)) else (if inb x1 4 = true then (if ((μ 83 x1.toNatClampNeg) - x2) < x3 then some (μ, (0 : Int32)) else some (μ, (1 : Int32))) else none)))
set_option maxHeartbeats 4000000 in
set_option maxRecDepth 20000 in
theorem c_X11_stand (E : Ev) (h : Nat → Nat) (g : Nat → Option Nat) {μ : Mem} {x1 : Int32} {x2 : Int32} {x3 : Int32} {r : (Mem × Int32)} (hf : f_X11_stand μ x1 x2 x3 = some r) : Ct E yX11_stand cX11_stand 4 (some .boolean) (rmOf 0 0) (wX E h g μ) (wX E h g r.1) [.ref (h 0), .int x1, .int x2, .int x3] (some (.int r.2)) := by
  refine ct_start RX11 0 (by decide) rfl (Nat.le_of_ble_eq_true rfl) ?_
  intro p l e s m args below meth c A Q X hr hlk hQ
  rw [f_X11_stand] at hf
  refine j_iload_n X dX11_stand_0 rfl rfl ?_
  refine j_if_lt (tgt := 24) X dX11_stand_1 (by decide) (fun c_1 => ?_) (fun c_1 => ?_)
  · replace hf := (if_pos c_1).symm.trans hf
    refine j_iconst (v := (0 : Int32)) X dX11_stand_24 (by decide) ?_
    obtain rfl := Option.some.inj hf
    exact j_iret X hr hlk rfl dX11_stand_25 hQ
  · replace hf := (if_neg c_1).symm.trans hf
    refine j_iload_n X dX11_stand_4 rfl rfl ?_
    refine j_if_lt (tgt := 24) X dX11_stand_5 (by decide) (fun c_5 => ?_) (fun c_5 => ?_)
    · replace hf := (if_pos c_5).symm.trans hf
      refine j_iconst (v := (0 : Int32)) X dX11_stand_24 (by decide) ?_
      obtain rfl := Option.some.inj hf
      exact j_iret X hr hlk rfl dX11_stand_25 hQ
    · replace hf := (if_neg c_5).symm.trans hf
      refine j_iload_n X dX11_stand_8 rfl rfl ?_
      refine j_aload_n X dX11_stand_9 rfl rfl ?_
      refine j_get (C := RX11) (T := TX11) (N := 10) X iX11 0 (wX_0 ..) rfl 7 (by decide) k_317 rfl rfl dX11_stand_10 ?_
      refine j_iload_n X dX11_stand_13 rfl rfl ?_
      obtain ⟨c1, hf⟩ := oi_in hf
      refine j_iald X 83 (wX_83 ..) c1 dX11_stand_14 ?_
      refine j_iload_n X dX11_stand_15 rfl rfl ?_
      refine j_isub X dX11_stand_16 ?_
      refine j_icmp_gt (tgt := 24) X dX11_stand_17 (by decide) (fun c_17 => ?_) (fun c_17 => ?_)
      · replace hf := (if_pos c_17).symm.trans hf
        refine j_iconst (v := (0 : Int32)) X dX11_stand_24 (by decide) ?_
        obtain rfl := Option.some.inj hf
        exact j_iret X hr hlk rfl dX11_stand_25 hQ
      · replace hf := (if_neg c_17).symm.trans hf
        refine j_iconst (v := (1 : Int32)) X dX11_stand_20 (by decide) ?_
        refine j_goto (tgt := 25) X dX11_stand_21 (by decide) ?_
        obtain rfl := Option.some.inj hf
        exact j_iret X hr hlk rfl dX11_stand_25 hQ
def f_X11_move (μ : Mem) (x1 : Int32) (x2 : Int32) (x3 : Int32) (x4 : Int32) (x5 : Int32) : Option (Mem × Int32) := (f_X11_isSheet x1).bind fun q1 => ((if q1 = 0 then (f_X11_fails μ (1 : Int32)).bind fun q2 => (some (q2.1, q2.2)) else (f_X11_isSheet x3).bind fun q3 => ((if q3 = 0 then (f_X11_fails μ (1 : Int32)).bind fun q47 => (some (q47.1, q47.2)) else (f_X11_isMissing μ x1).bind fun q4 => ((if q4.2 = 0 then (f_X11_isMissing q4.1 x3).bind fun q6 => ((if q6.2 = 0 then (if inb x1 4 = true then (if inb x3 4 = true then (if (q6.1 82 x1.toNatClampNeg) = (q6.1 82 x3.toNatClampNeg) then (f_X11_stand q6.1 x1 x2 x5).bind fun q9 => ((if q9.2 = 0 then (f_X11_fails q9.1 (1 : Int32)).bind fun q10 => (some (q10.1, q10.2)) else (f_X11_stand q9.1 x3 x4 x5).bind fun q11 => ((if q11.2 = 0 then (f_X11_fails q11.1 (1 : Int32)).bind fun q44 => (some (q44.1, q44.2)) else (if x1 = (0 : Int32) then (if x3 = (0 : Int32) then (if inc x2 x4 x5 24 24 = true then bd (upA q11.1 78 (va_cpy (q11.1 78) (q11.1 78) x2.toNatClampNeg x4.toNatClampNeg x5.toNatClampNeg)) fun μ13 => (some (μ13, x5)) else none) else (if x3 = (1 : Int32) then (if inc x2 x4 x5 24 24 = true then bd (upA q11.1 79 (va_cpy (q11.1 78) (q11.1 79) x2.toNatClampNeg x4.toNatClampNeg x5.toNatClampNeg)) fun μ15 => (some (μ15, x5)) else none) else (if x3 = (2 : Int32) then (if inc x2 x4 x5 24 24 = true then bd (upA q11.1 80 (va_cpy (q11.1 78) (q11.1 80) x2.toNatClampNeg x4.toNatClampNeg x5.toNatClampNeg)) fun μ17 => (some (μ17, x5)) else none) else (if x3 = (3 : Int32) then (if inc x2 x4 x5 24 24 = true then bd (upA q11.1 81 (va_cpy (q11.1 78) (q11.1 81) x2.toNatClampNeg x4.toNatClampNeg x5.toNatClampNeg)) fun μ19 => (some (μ19, x5)) else none) else none)))) else (if x1 = (1 : Int32) then (if x3 = (0 : Int32) then (if inc x2 x4 x5 24 24 = true then bd (upA q11.1 78 (va_cpy (q11.1 79) (q11.1 78) x2.toNatClampNeg x4.toNatClampNeg x5.toNatClampNeg)) fun μ21 => (some (μ21, x5)) else none) else (if x3 = (1 : Int32) then (if inc x2 x4 x5 24 24 = true then bd (upA q11.1 79 (va_cpy (q11.1 79) (q11.1 79) x2.toNatClampNeg x4.toNatClampNeg x5.toNatClampNeg)) fun μ23 => (some (μ23, x5)) else none) else (if x3 = (2 : Int32) then (if inc x2 x4 x5 24 24 = true then bd (upA q11.1 80 (va_cpy (q11.1 79) (q11.1 80) x2.toNatClampNeg x4.toNatClampNeg x5.toNatClampNeg)) fun μ25 => (some (μ25, x5)) else none) else (if x3 = (3 : Int32) then (if inc x2 x4 x5 24 24 = true then bd (upA q11.1 81 (va_cpy (q11.1 79) (q11.1 81) x2.toNatClampNeg x4.toNatClampNeg x5.toNatClampNeg)) fun μ27 => (some (μ27, x5)) else none) else none)))) else (if x1 = (2 : Int32) then (if x3 = (0 : Int32) then (if inc x2 x4 x5 24 24 = true then bd (upA q11.1 78 (va_cpy (q11.1 80) (q11.1 78) x2.toNatClampNeg x4.toNatClampNeg x5.toNatClampNeg)) fun μ29 => (some (μ29, x5)) else none) else (if x3 = (1 : Int32) then (if inc x2 x4 x5 24 24 = true then bd (upA q11.1 79 (va_cpy (q11.1 80) (q11.1 79) x2.toNatClampNeg x4.toNatClampNeg x5.toNatClampNeg)) fun μ31 => (some (μ31, x5)) else none) else (if x3 = (2 : Int32) then (if inc x2 x4 x5 24 24 = true then bd (upA q11.1 80 (va_cpy (q11.1 80) (q11.1 80) x2.toNatClampNeg x4.toNatClampNeg x5.toNatClampNeg)) fun μ33 => (some (μ33, x5)) else none) else (if x3 = (3 : Int32) then (if inc x2 x4 x5 24 24 = true then bd (upA q11.1 81 (va_cpy (q11.1 80) (q11.1 81) x2.toNatClampNeg x4.toNatClampNeg x5.toNatClampNeg)) fun μ35 => (some (μ35, x5)) else none) else none)))) else (if x1 = (3 : Int32) then (if x3 = (0 : Int32) then (if inc x2 x4 x5 24 24 = true then bd (upA q11.1 78 (va_cpy (q11.1 81) (q11.1 78) x2.toNatClampNeg x4.toNatClampNeg x5.toNatClampNeg)) fun μ37 => (some (μ37, x5)) else none) else (if x3 = (1 : Int32) then (if inc x2 x4 x5 24 24 = true then bd (upA q11.1 79 (va_cpy (q11.1 81) (q11.1 79) x2.toNatClampNeg x4.toNatClampNeg x5.toNatClampNeg)) fun μ39 => (some (μ39, x5)) else none) else (if x3 = (2 : Int32) then (if inc x2 x4 x5 24 24 = true then bd (upA q11.1 80 (va_cpy (q11.1 81) (q11.1 80) x2.toNatClampNeg x4.toNatClampNeg x5.toNatClampNeg)) fun μ41 => (some (μ41, x5)) else none) else (if x3 = (3 : Int32) then (if inc x2 x4 x5 24 24 = true then bd (upA q11.1 81 (va_cpy (q11.1 81) (q11.1 81) x2.toNatClampNeg x4.toNatClampNeg x5.toNatClampNeg)) fun μ43 => (some (μ43, x5)) else none) else none)))) else none)))))))) else (f_X11_fails q6.1 (5 : Int32)).bind fun q45 => (some (q45.1, q45.2))) else none) else none) else (f_X11_fails q6.1 (2 : Int32)).bind fun q46 => (some (q46.1, q46.2)))) else (f_X11_fails q4.1 (2 : Int32)).bind fun q5 => (some (q5.1, q5.2))))))))
set_option maxHeartbeats 4000000 in
set_option maxRecDepth 20000 in
theorem c_X11_move (E : Ev) (h : Nat → Nat) (g : Nat → Option Nat) {μ : Mem} {x1 : Int32} {x2 : Int32} {x3 : Int32} {x4 : Int32} {x5 : Int32} {r : (Mem × Int32)} (hf : f_X11_move μ x1 x2 x3 x4 x5 = some r) : Ct E yX11_move cX11_move 6 (some .int) (rmOf 2 43) (wX E h g μ) (wX E h g r.1) [.ref (h 0), .int x1, .int x2, .int x3, .int x4, .int x5] (some (.int r.2)) := by
  refine ct_start RX11 0 (by decide) rfl (Nat.le_of_ble_eq_true rfl) ?_
  intro p l e s m args below meth c A Q X hr hlk hQ
  rw [f_X11_move] at hf
  refine j_iload_n X dX11_move_0 rfl rfl ?_
  obtain ⟨q1, g_q1, hf⟩ := ob_t hf
  refine j_callS X [] (c_X11_isSheet E g_q1) rfl rfl rfl (ws' := (wX E h g μ)) rfl k_716 k_717 k_68 k_718 (⟨rfl, rfl⟩) hdS_X11_isSheet ⟨Nat.le_of_ble_eq_true rfl, Nat.le_of_ble_eq_true rfl⟩ rfl (Nat.le_of_ble_eq_true rfl) rfl dX11_move_1 ?_
  refine j_if_eq (tgt := 14) X dX11_move_4 (by decide) (fun c_4 => ?_) (fun c_4 => ?_)
  · replace hf := (if_pos c_4).symm.trans hf
    refine j_aload_n X dX11_move_14 rfl rfl ?_
    refine j_iconst (v := (1 : Int32)) X dX11_move_15 (by decide) ?_
    obtain ⟨q2, g_q2, hf⟩ := ob_t hf
    refine j_callV X [0, 1, 2, 3, 4, 5, 6, 7, 8, 9, 10, 11, 12, 13, 14, 15, 16, 17, 18, 19, 20, 21, 22, 23, 24, 25, 26, 27, 28, 29, 30, 31, 32, 33, 34, 35, 36, 37, 38, 39, 40, 41, 42, 43, 44, 45, 46, 47, 48, 49, 50, 51, 52, 53, 54, 55, 56, 57, 58, 59, 60, 61, 62, 63, 64, 65, 66, 67, 68, 69, 70, 71, 72, 73, 74, 75, 76, 77, 78, 79, 80, 81, 82, 83, 84] 0 (c_X11_fails E h g g_q2) (cut_wX_wX_c ..) rfl rfl (ws' := (wX E h g q2.1)) (cut_wX_wX_w ..) (wX_0 ..) rfl k_351 k_353 k_0 k_68 k_354 (⟨rfl, rfl⟩) hdV_X11_fails ⟨Nat.le_of_ble_eq_true rfl, Nat.le_of_ble_eq_true rfl⟩ rfl (Nat.le_of_ble_eq_true rfl) rfl dX11_move_16 ?_
    obtain rfl := Option.some.inj hf
    exact j_iret X hr hlk rfl dX11_move_19 hQ
  · replace hf := (if_neg c_4).symm.trans hf
    refine j_iload_n X dX11_move_7 rfl rfl ?_
    obtain ⟨q3, g_q3, hf⟩ := ob_t hf
    refine j_callS X [] (c_X11_isSheet E g_q3) rfl rfl rfl (ws' := (wX E h g μ)) rfl k_716 k_717 k_68 k_718 (⟨rfl, rfl⟩) hdS_X11_isSheet ⟨Nat.le_of_ble_eq_true rfl, Nat.le_of_ble_eq_true rfl⟩ rfl (Nat.le_of_ble_eq_true rfl) rfl dX11_move_8 ?_
    refine j_if_ne (tgt := 20) X dX11_move_11 (by decide) (fun c_11 => ?_) (fun c_11 => ?_)
    · replace hf := (if_neg c_11).symm.trans hf
      refine j_aload_n X dX11_move_20 rfl rfl ?_
      refine j_iload_n X dX11_move_21 rfl rfl ?_
      obtain ⟨q4, g_q4, hf⟩ := ob_t hf
      refine j_callV X [0, 1, 2, 3, 4, 5, 6, 7, 8, 9, 10, 11, 12, 13, 14, 15, 16, 17, 18, 19, 20, 21, 22, 23, 24, 25, 26, 27, 28, 29, 30, 31, 32, 33, 34, 35, 36, 37, 38, 39, 40, 41, 42, 43, 44, 45, 46, 47, 48, 49, 50, 51, 52, 53, 54, 55, 56, 57, 58, 59, 60, 61, 62, 63, 64, 65, 66, 67, 68, 69, 70, 71, 72, 73, 74, 75, 76, 77, 78, 79, 80, 81, 82, 83, 84] 0 (c_X11_isMissing E h g g_q4) (cut_wX_wX_c ..) rfl rfl (ws' := (wX E h g q4.1)) (cut_wX_wX_w ..) (wX_0 ..) rfl k_719 k_721 k_21 k_68 k_722 (⟨rfl, rfl⟩) hdV_X11_isMissing ⟨Nat.le_of_ble_eq_true rfl, Nat.le_of_ble_eq_true rfl⟩ rfl (Nat.le_of_ble_eq_true rfl) rfl dX11_move_22 ?_
      refine j_if_ne (tgt := 36) X dX11_move_25 (by decide) (fun c_25 => ?_) (fun c_25 => ?_)
      · replace hf := (if_neg c_25).symm.trans hf
        refine j_aload_n X dX11_move_36 rfl rfl ?_
        refine j_iconst (v := (2 : Int32)) X dX11_move_37 (by decide) ?_
        obtain ⟨q5, g_q5, hf⟩ := ob_t hf
        refine j_callV X [0, 1, 2, 3, 4, 5, 6, 7, 8, 9, 10, 11, 12, 13, 14, 15, 16, 17, 18, 19, 20, 21, 22, 23, 24, 25, 26, 27, 28, 29, 30, 31, 32, 33, 34, 35, 36, 37, 38, 39, 40, 41, 42, 43, 44, 45, 46, 47, 48, 49, 50, 51, 52, 53, 54, 55, 56, 57, 58, 59, 60, 61, 62, 63, 64, 65, 66, 67, 68, 69, 70, 71, 72, 73, 74, 75, 76, 77, 78, 79, 80, 81, 82, 83, 84] 0 (c_X11_fails E h g g_q5) (cut_wX_wX_c ..) rfl rfl (ws' := (wX E h g q5.1)) (cut_wX_wX_w ..) (wX_0 ..) rfl k_351 k_353 k_0 k_68 k_354 (⟨rfl, rfl⟩) hdV_X11_fails ⟨Nat.le_of_ble_eq_true rfl, Nat.le_of_ble_eq_true rfl⟩ rfl (Nat.le_of_ble_eq_true rfl) rfl dX11_move_38 ?_
        obtain rfl := Option.some.inj hf
        exact j_iret X hr hlk rfl dX11_move_41 hQ
      · replace hf := (if_pos c_25).symm.trans hf
        refine j_aload_n X dX11_move_28 rfl rfl ?_
        refine j_iload_n X dX11_move_29 rfl rfl ?_
        obtain ⟨q6, g_q6, hf⟩ := ob_t hf
        refine j_callV X [0, 1, 2, 3, 4, 5, 6, 7, 8, 9, 10, 11, 12, 13, 14, 15, 16, 17, 18, 19, 20, 21, 22, 23, 24, 25, 26, 27, 28, 29, 30, 31, 32, 33, 34, 35, 36, 37, 38, 39, 40, 41, 42, 43, 44, 45, 46, 47, 48, 49, 50, 51, 52, 53, 54, 55, 56, 57, 58, 59, 60, 61, 62, 63, 64, 65, 66, 67, 68, 69, 70, 71, 72, 73, 74, 75, 76, 77, 78, 79, 80, 81, 82, 83, 84] 0 (c_X11_isMissing E h g g_q6) (cut_wX_wX_c ..) rfl rfl (ws' := (wX E h g q6.1)) (cut_wX_wX_w ..) (wX_0 ..) rfl k_719 k_721 k_21 k_68 k_722 (⟨rfl, rfl⟩) hdV_X11_isMissing ⟨Nat.le_of_ble_eq_true rfl, Nat.le_of_ble_eq_true rfl⟩ rfl (Nat.le_of_ble_eq_true rfl) rfl dX11_move_30 ?_
        refine j_if_eq (tgt := 42) X dX11_move_33 (by decide) (fun c_33 => ?_) (fun c_33 => ?_)
        · replace hf := (if_pos c_33).symm.trans hf
          refine j_aload_n X dX11_move_42 rfl rfl ?_
          refine j_get (C := RX11) (T := TX11) (N := 10) X iX11 0 (wX_0 ..) rfl 6 (by decide) k_316 rfl rfl dX11_move_43 ?_
          refine j_iload_n X dX11_move_46 rfl rfl ?_
          obtain ⟨c7, hf⟩ := oi_in hf
          refine j_iald X 82 (wX_82 ..) c7 dX11_move_47 ?_
          refine j_aload_n X dX11_move_48 rfl rfl ?_
          refine j_get (C := RX11) (T := TX11) (N := 10) X iX11 0 (wX_0 ..) rfl 6 (by decide) k_316 rfl rfl dX11_move_49 ?_
          refine j_iload_n X dX11_move_52 rfl rfl ?_
          obtain ⟨c8, hf⟩ := oi_in hf
          refine j_iald X 82 (wX_82 ..) c8 dX11_move_53 ?_
          refine j_icmp_eq (tgt := 63) X dX11_move_54 (by decide) (fun c_54 => ?_) (fun c_54 => ?_)
          · replace hf := (if_pos c_54).symm.trans hf
            refine j_aload_n X dX11_move_63 rfl rfl ?_
            refine j_iload_n X dX11_move_64 rfl rfl ?_
            refine j_iload_n X dX11_move_65 rfl rfl ?_
            refine j_iload X dX11_move_66 rfl ?_
            obtain ⟨q9, g_q9, hf⟩ := ob_t hf
            refine j_callV X [0, 1, 2, 3, 4, 5, 6, 7, 8, 9, 10, 11, 12, 13, 14, 15, 16, 17, 18, 19, 20, 21, 22, 23, 24, 25, 26, 27, 28, 29, 30, 31, 32, 33, 34, 35, 36, 37, 38, 39, 40, 41, 42, 43, 44, 45, 46, 47, 48, 49, 50, 51, 52, 53, 54, 55, 56, 57, 58, 59, 60, 61, 62, 63, 64, 65, 66, 67, 68, 69, 70, 71, 72, 73, 74, 75, 76, 77, 78, 79, 80, 81, 82, 83, 84] 0 (c_X11_stand E h g g_q9) (cut_wX_wX_c ..) rfl rfl (ws' := (wX E h g q9.1)) (cut_wX_wX_w ..) (wX_0 ..) rfl k_853 k_855 k_22 k_68 k_856 (⟨rfl, rfl⟩) hdV_X11_stand ⟨Nat.le_of_ble_eq_true rfl, Nat.le_of_ble_eq_true rfl⟩ rfl (Nat.le_of_ble_eq_true rfl) rfl dX11_move_68 ?_
            refine j_if_eq (tgt := 86) X dX11_move_71 (by decide) (fun c_71 => ?_) (fun c_71 => ?_)
            · replace hf := (if_pos c_71).symm.trans hf
              refine j_aload_n X dX11_move_86 rfl rfl ?_
              refine j_iconst (v := (1 : Int32)) X dX11_move_87 (by decide) ?_
              obtain ⟨q10, g_q10, hf⟩ := ob_t hf
              refine j_callV X [0, 1, 2, 3, 4, 5, 6, 7, 8, 9, 10, 11, 12, 13, 14, 15, 16, 17, 18, 19, 20, 21, 22, 23, 24, 25, 26, 27, 28, 29, 30, 31, 32, 33, 34, 35, 36, 37, 38, 39, 40, 41, 42, 43, 44, 45, 46, 47, 48, 49, 50, 51, 52, 53, 54, 55, 56, 57, 58, 59, 60, 61, 62, 63, 64, 65, 66, 67, 68, 69, 70, 71, 72, 73, 74, 75, 76, 77, 78, 79, 80, 81, 82, 83, 84] 0 (c_X11_fails E h g g_q10) (cut_wX_wX_c ..) rfl rfl (ws' := (wX E h g q10.1)) (cut_wX_wX_w ..) (wX_0 ..) rfl k_351 k_353 k_0 k_68 k_354 (⟨rfl, rfl⟩) hdV_X11_fails ⟨Nat.le_of_ble_eq_true rfl, Nat.le_of_ble_eq_true rfl⟩ rfl (Nat.le_of_ble_eq_true rfl) rfl dX11_move_88 ?_
              obtain rfl := Option.some.inj hf
              exact j_iret X hr hlk rfl dX11_move_91 hQ
            · replace hf := (if_neg c_71).symm.trans hf
              refine j_aload_n X dX11_move_74 rfl rfl ?_
              refine j_iload_n X dX11_move_75 rfl rfl ?_
              refine j_iload X dX11_move_76 rfl ?_
              refine j_iload X dX11_move_78 rfl ?_
              obtain ⟨q11, g_q11, hf⟩ := ob_t hf
              refine j_callV X [0, 1, 2, 3, 4, 5, 6, 7, 8, 9, 10, 11, 12, 13, 14, 15, 16, 17, 18, 19, 20, 21, 22, 23, 24, 25, 26, 27, 28, 29, 30, 31, 32, 33, 34, 35, 36, 37, 38, 39, 40, 41, 42, 43, 44, 45, 46, 47, 48, 49, 50, 51, 52, 53, 54, 55, 56, 57, 58, 59, 60, 61, 62, 63, 64, 65, 66, 67, 68, 69, 70, 71, 72, 73, 74, 75, 76, 77, 78, 79, 80, 81, 82, 83, 84] 0 (c_X11_stand E h g g_q11) (cut_wX_wX_c ..) rfl rfl (ws' := (wX E h g q11.1)) (cut_wX_wX_w ..) (wX_0 ..) rfl k_853 k_855 k_22 k_68 k_856 (⟨rfl, rfl⟩) hdV_X11_stand ⟨Nat.le_of_ble_eq_true rfl, Nat.le_of_ble_eq_true rfl⟩ rfl (Nat.le_of_ble_eq_true rfl) rfl dX11_move_80 ?_
              refine j_if_ne (tgt := 92) X dX11_move_83 (by decide) (fun c_83 => ?_) (fun c_83 => ?_)
              · replace hf := (if_neg c_83).symm.trans hf
                refine j_aload_n X dX11_move_92 rfl rfl ?_
                refine j_get (C := RX11) (T := TX11) (N := 10) X iX11 0 (wX_0 ..) rfl 5 (by decide) k_315 rfl rfl dX11_move_93 ?_
                refine j_iload_n X dX11_move_96 rfl rfl ?_
                by_cases n_97_0 : x1 = (0 : Int32)
                · replace hf := (if_pos n_97_0).symm.trans hf
                  refine j_aald4 X 77 (wX_77 ..) (b := h 78) (by rw [n_97_0]; unfold vp_in; decide) (by rw [n_97_0]; rfl) dX11_move_97 ?_
                  refine j_iload_n X dX11_move_98 rfl rfl ?_
                  refine j_aload_n X dX11_move_99 rfl rfl ?_
                  refine j_get (C := RX11) (T := TX11) (N := 10) X iX11 0 (wX_0 ..) rfl 5 (by decide) k_315 rfl rfl dX11_move_100 ?_
                  refine j_iload_n X dX11_move_103 rfl rfl ?_
                  by_cases n_104_0 : x3 = (0 : Int32)
                  · replace hf := (if_pos n_104_0).symm.trans hf
                    refine j_aald4 X 77 (wX_77 ..) (b := h 78) (by rw [n_104_0]; unfold vp_in; decide) (by rw [n_104_0]; rfl) dX11_move_104 ?_
                    refine j_iload X dX11_move_105 rfl ?_
                    refine j_iload X dX11_move_107 rfl ?_
                    obtain ⟨c12, hf⟩ := oi_cp hf
                    obtain ⟨μ13, e_μ13, hf⟩ := bd_e hf
                    refine j_copyi X k_857 k_644 k_643 k_82 78 78 (wX_78 ..) (wX_78 ..) c12.1 c12.2.1 c12.2.2.1 c12.2.2.2.1 c12.2.2.2.2 (Nat.le_of_ble_eq_true rfl) (Nat.le_of_ble_eq_true rfl) dX11_move_109 (ws' := (wX E h g μ13)) (by rw [e_μ13]; exact wX_s78 ..) ?_
                    refine j_iload X dX11_move_112 rfl ?_
                    obtain rfl := Option.some.inj hf
                    exact j_iret X hr hlk rfl dX11_move_114 hQ
                  · replace hf := (if_neg n_104_0).symm.trans hf
                    by_cases n_104_1 : x3 = (1 : Int32)
                    · replace hf := (if_pos n_104_1).symm.trans hf
                      refine j_aald4 X 77 (wX_77 ..) (b := h 79) (by rw [n_104_1]; unfold vp_in; decide) (by rw [n_104_1]; rfl) dX11_move_104 ?_
                      refine j_iload X dX11_move_105 rfl ?_
                      refine j_iload X dX11_move_107 rfl ?_
                      obtain ⟨c14, hf⟩ := oi_cp hf
                      obtain ⟨μ15, e_μ15, hf⟩ := bd_e hf
                      refine j_copyi X k_857 k_644 k_643 k_82 78 79 (wX_78 ..) (wX_79 ..) c14.1 c14.2.1 c14.2.2.1 c14.2.2.2.1 c14.2.2.2.2 (Nat.le_of_ble_eq_true rfl) (Nat.le_of_ble_eq_true rfl) dX11_move_109 (ws' := (wX E h g μ15)) (by rw [e_μ15]; exact wX_s79 ..) ?_
                      refine j_iload X dX11_move_112 rfl ?_
                      obtain rfl := Option.some.inj hf
                      exact j_iret X hr hlk rfl dX11_move_114 hQ
                    · replace hf := (if_neg n_104_1).symm.trans hf
                      by_cases n_104_2 : x3 = (2 : Int32)
                      · replace hf := (if_pos n_104_2).symm.trans hf
                        refine j_aald4 X 77 (wX_77 ..) (b := h 80) (by rw [n_104_2]; unfold vp_in; decide) (by rw [n_104_2]; rfl) dX11_move_104 ?_
                        refine j_iload X dX11_move_105 rfl ?_
                        refine j_iload X dX11_move_107 rfl ?_
                        obtain ⟨c16, hf⟩ := oi_cp hf
                        obtain ⟨μ17, e_μ17, hf⟩ := bd_e hf
                        refine j_copyi X k_857 k_644 k_643 k_82 78 80 (wX_78 ..) (wX_80 ..) c16.1 c16.2.1 c16.2.2.1 c16.2.2.2.1 c16.2.2.2.2 (Nat.le_of_ble_eq_true rfl) (Nat.le_of_ble_eq_true rfl) dX11_move_109 (ws' := (wX E h g μ17)) (by rw [e_μ17]; exact wX_s80 ..) ?_
                        refine j_iload X dX11_move_112 rfl ?_
                        obtain rfl := Option.some.inj hf
                        exact j_iret X hr hlk rfl dX11_move_114 hQ
                      · replace hf := (if_neg n_104_2).symm.trans hf
                        by_cases n_104_3 : x3 = (3 : Int32)
                        · replace hf := (if_pos n_104_3).symm.trans hf
                          refine j_aald4 X 77 (wX_77 ..) (b := h 81) (by rw [n_104_3]; unfold vp_in; decide) (by rw [n_104_3]; rfl) dX11_move_104 ?_
                          refine j_iload X dX11_move_105 rfl ?_
                          refine j_iload X dX11_move_107 rfl ?_
                          obtain ⟨c18, hf⟩ := oi_cp hf
                          obtain ⟨μ19, e_μ19, hf⟩ := bd_e hf
                          refine j_copyi X k_857 k_644 k_643 k_82 78 81 (wX_78 ..) (wX_81 ..) c18.1 c18.2.1 c18.2.2.1 c18.2.2.2.1 c18.2.2.2.2 (Nat.le_of_ble_eq_true rfl) (Nat.le_of_ble_eq_true rfl) dX11_move_109 (ws' := (wX E h g μ19)) (by rw [e_μ19]; exact wX_s81 ..) ?_
                          refine j_iload X dX11_move_112 rfl ?_
                          obtain rfl := Option.some.inj hf
                          exact j_iret X hr hlk rfl dX11_move_114 hQ
                        · replace hf := (if_neg n_104_3).symm.trans hf
                          cases hf
                · replace hf := (if_neg n_97_0).symm.trans hf
                  by_cases n_97_1 : x1 = (1 : Int32)
                  · replace hf := (if_pos n_97_1).symm.trans hf
                    refine j_aald4 X 77 (wX_77 ..) (b := h 79) (by rw [n_97_1]; unfold vp_in; decide) (by rw [n_97_1]; rfl) dX11_move_97 ?_
                    refine j_iload_n X dX11_move_98 rfl rfl ?_
                    refine j_aload_n X dX11_move_99 rfl rfl ?_
                    refine j_get (C := RX11) (T := TX11) (N := 10) X iX11 0 (wX_0 ..) rfl 5 (by decide) k_315 rfl rfl dX11_move_100 ?_
                    refine j_iload_n X dX11_move_103 rfl rfl ?_
                    by_cases n_104_0 : x3 = (0 : Int32)
                    · replace hf := (if_pos n_104_0).symm.trans hf
                      refine j_aald4 X 77 (wX_77 ..) (b := h 78) (by rw [n_104_0]; unfold vp_in; decide) (by rw [n_104_0]; rfl) dX11_move_104 ?_
                      refine j_iload X dX11_move_105 rfl ?_
                      refine j_iload X dX11_move_107 rfl ?_
                      obtain ⟨c20, hf⟩ := oi_cp hf
                      obtain ⟨μ21, e_μ21, hf⟩ := bd_e hf
                      refine j_copyi X k_857 k_644 k_643 k_82 79 78 (wX_79 ..) (wX_78 ..) c20.1 c20.2.1 c20.2.2.1 c20.2.2.2.1 c20.2.2.2.2 (Nat.le_of_ble_eq_true rfl) (Nat.le_of_ble_eq_true rfl) dX11_move_109 (ws' := (wX E h g μ21)) (by rw [e_μ21]; exact wX_s78 ..) ?_
                      refine j_iload X dX11_move_112 rfl ?_
                      obtain rfl := Option.some.inj hf
                      exact j_iret X hr hlk rfl dX11_move_114 hQ
                    · replace hf := (if_neg n_104_0).symm.trans hf
                      by_cases n_104_1 : x3 = (1 : Int32)
                      · replace hf := (if_pos n_104_1).symm.trans hf
                        refine j_aald4 X 77 (wX_77 ..) (b := h 79) (by rw [n_104_1]; unfold vp_in; decide) (by rw [n_104_1]; rfl) dX11_move_104 ?_
                        refine j_iload X dX11_move_105 rfl ?_
                        refine j_iload X dX11_move_107 rfl ?_
                        obtain ⟨c22, hf⟩ := oi_cp hf
                        obtain ⟨μ23, e_μ23, hf⟩ := bd_e hf
                        refine j_copyi X k_857 k_644 k_643 k_82 79 79 (wX_79 ..) (wX_79 ..) c22.1 c22.2.1 c22.2.2.1 c22.2.2.2.1 c22.2.2.2.2 (Nat.le_of_ble_eq_true rfl) (Nat.le_of_ble_eq_true rfl) dX11_move_109 (ws' := (wX E h g μ23)) (by rw [e_μ23]; exact wX_s79 ..) ?_
                        refine j_iload X dX11_move_112 rfl ?_
                        obtain rfl := Option.some.inj hf
                        exact j_iret X hr hlk rfl dX11_move_114 hQ
                      · replace hf := (if_neg n_104_1).symm.trans hf
                        by_cases n_104_2 : x3 = (2 : Int32)
                        · replace hf := (if_pos n_104_2).symm.trans hf
                          refine j_aald4 X 77 (wX_77 ..) (b := h 80) (by rw [n_104_2]; unfold vp_in; decide) (by rw [n_104_2]; rfl) dX11_move_104 ?_
                          refine j_iload X dX11_move_105 rfl ?_
                          refine j_iload X dX11_move_107 rfl ?_
                          obtain ⟨c24, hf⟩ := oi_cp hf
                          obtain ⟨μ25, e_μ25, hf⟩ := bd_e hf
                          refine j_copyi X k_857 k_644 k_643 k_82 79 80 (wX_79 ..) (wX_80 ..) c24.1 c24.2.1 c24.2.2.1 c24.2.2.2.1 c24.2.2.2.2 (Nat.le_of_ble_eq_true rfl) (Nat.le_of_ble_eq_true rfl) dX11_move_109 (ws' := (wX E h g μ25)) (by rw [e_μ25]; exact wX_s80 ..) ?_
                          refine j_iload X dX11_move_112 rfl ?_
                          obtain rfl := Option.some.inj hf
                          exact j_iret X hr hlk rfl dX11_move_114 hQ
                        · replace hf := (if_neg n_104_2).symm.trans hf
                          by_cases n_104_3 : x3 = (3 : Int32)
                          · replace hf := (if_pos n_104_3).symm.trans hf
                            refine j_aald4 X 77 (wX_77 ..) (b := h 81) (by rw [n_104_3]; unfold vp_in; decide) (by rw [n_104_3]; rfl) dX11_move_104 ?_
                            refine j_iload X dX11_move_105 rfl ?_
                            refine j_iload X dX11_move_107 rfl ?_
                            obtain ⟨c26, hf⟩ := oi_cp hf
                            obtain ⟨μ27, e_μ27, hf⟩ := bd_e hf
                            refine j_copyi X k_857 k_644 k_643 k_82 79 81 (wX_79 ..) (wX_81 ..) c26.1 c26.2.1 c26.2.2.1 c26.2.2.2.1 c26.2.2.2.2 (Nat.le_of_ble_eq_true rfl) (Nat.le_of_ble_eq_true rfl) dX11_move_109 (ws' := (wX E h g μ27)) (by rw [e_μ27]; exact wX_s81 ..) ?_
                            refine j_iload X dX11_move_112 rfl ?_
                            obtain rfl := Option.some.inj hf
                            exact j_iret X hr hlk rfl dX11_move_114 hQ
                          · replace hf := (if_neg n_104_3).symm.trans hf
                            cases hf
                  · replace hf := (if_neg n_97_1).symm.trans hf
                    by_cases n_97_2 : x1 = (2 : Int32)
                    · replace hf := (if_pos n_97_2).symm.trans hf
                      refine j_aald4 X 77 (wX_77 ..) (b := h 80) (by rw [n_97_2]; unfold vp_in; decide) (by rw [n_97_2]; rfl) dX11_move_97 ?_
                      refine j_iload_n X dX11_move_98 rfl rfl ?_
                      refine j_aload_n X dX11_move_99 rfl rfl ?_
                      refine j_get (C := RX11) (T := TX11) (N := 10) X iX11 0 (wX_0 ..) rfl 5 (by decide) k_315 rfl rfl dX11_move_100 ?_
                      refine j_iload_n X dX11_move_103 rfl rfl ?_
                      by_cases n_104_0 : x3 = (0 : Int32)
                      · replace hf := (if_pos n_104_0).symm.trans hf
                        refine j_aald4 X 77 (wX_77 ..) (b := h 78) (by rw [n_104_0]; unfold vp_in; decide) (by rw [n_104_0]; rfl) dX11_move_104 ?_
                        refine j_iload X dX11_move_105 rfl ?_
                        refine j_iload X dX11_move_107 rfl ?_
                        obtain ⟨c28, hf⟩ := oi_cp hf
                        obtain ⟨μ29, e_μ29, hf⟩ := bd_e hf
                        refine j_copyi X k_857 k_644 k_643 k_82 80 78 (wX_80 ..) (wX_78 ..) c28.1 c28.2.1 c28.2.2.1 c28.2.2.2.1 c28.2.2.2.2 (Nat.le_of_ble_eq_true rfl) (Nat.le_of_ble_eq_true rfl) dX11_move_109 (ws' := (wX E h g μ29)) (by rw [e_μ29]; exact wX_s78 ..) ?_
                        refine j_iload X dX11_move_112 rfl ?_
                        obtain rfl := Option.some.inj hf
                        exact j_iret X hr hlk rfl dX11_move_114 hQ
                      · replace hf := (if_neg n_104_0).symm.trans hf
                        by_cases n_104_1 : x3 = (1 : Int32)
                        · replace hf := (if_pos n_104_1).symm.trans hf
                          refine j_aald4 X 77 (wX_77 ..) (b := h 79) (by rw [n_104_1]; unfold vp_in; decide) (by rw [n_104_1]; rfl) dX11_move_104 ?_
                          refine j_iload X dX11_move_105 rfl ?_
                          refine j_iload X dX11_move_107 rfl ?_
                          obtain ⟨c30, hf⟩ := oi_cp hf
                          obtain ⟨μ31, e_μ31, hf⟩ := bd_e hf
                          refine j_copyi X k_857 k_644 k_643 k_82 80 79 (wX_80 ..) (wX_79 ..) c30.1 c30.2.1 c30.2.2.1 c30.2.2.2.1 c30.2.2.2.2 (Nat.le_of_ble_eq_true rfl) (Nat.le_of_ble_eq_true rfl) dX11_move_109 (ws' := (wX E h g μ31)) (by rw [e_μ31]; exact wX_s79 ..) ?_
                          refine j_iload X dX11_move_112 rfl ?_
                          obtain rfl := Option.some.inj hf
                          exact j_iret X hr hlk rfl dX11_move_114 hQ
                        · replace hf := (if_neg n_104_1).symm.trans hf
                          by_cases n_104_2 : x3 = (2 : Int32)
                          · replace hf := (if_pos n_104_2).symm.trans hf
                            refine j_aald4 X 77 (wX_77 ..) (b := h 80) (by rw [n_104_2]; unfold vp_in; decide) (by rw [n_104_2]; rfl) dX11_move_104 ?_
                            refine j_iload X dX11_move_105 rfl ?_
                            refine j_iload X dX11_move_107 rfl ?_
                            obtain ⟨c32, hf⟩ := oi_cp hf
                            obtain ⟨μ33, e_μ33, hf⟩ := bd_e hf
                            refine j_copyi X k_857 k_644 k_643 k_82 80 80 (wX_80 ..) (wX_80 ..) c32.1 c32.2.1 c32.2.2.1 c32.2.2.2.1 c32.2.2.2.2 (Nat.le_of_ble_eq_true rfl) (Nat.le_of_ble_eq_true rfl) dX11_move_109 (ws' := (wX E h g μ33)) (by rw [e_μ33]; exact wX_s80 ..) ?_
                            refine j_iload X dX11_move_112 rfl ?_
                            obtain rfl := Option.some.inj hf
                            exact j_iret X hr hlk rfl dX11_move_114 hQ
                          · replace hf := (if_neg n_104_2).symm.trans hf
                            by_cases n_104_3 : x3 = (3 : Int32)
                            · replace hf := (if_pos n_104_3).symm.trans hf
                              refine j_aald4 X 77 (wX_77 ..) (b := h 81) (by rw [n_104_3]; unfold vp_in; decide) (by rw [n_104_3]; rfl) dX11_move_104 ?_
                              refine j_iload X dX11_move_105 rfl ?_
                              refine j_iload X dX11_move_107 rfl ?_
                              obtain ⟨c34, hf⟩ := oi_cp hf
                              obtain ⟨μ35, e_μ35, hf⟩ := bd_e hf
                              refine j_copyi X k_857 k_644 k_643 k_82 80 81 (wX_80 ..) (wX_81 ..) c34.1 c34.2.1 c34.2.2.1 c34.2.2.2.1 c34.2.2.2.2 (Nat.le_of_ble_eq_true rfl) (Nat.le_of_ble_eq_true rfl) dX11_move_109 (ws' := (wX E h g μ35)) (by rw [e_μ35]; exact wX_s81 ..) ?_
                              refine j_iload X dX11_move_112 rfl ?_
                              obtain rfl := Option.some.inj hf
                              exact j_iret X hr hlk rfl dX11_move_114 hQ
                            · replace hf := (if_neg n_104_3).symm.trans hf
                              cases hf
                    · replace hf := (if_neg n_97_2).symm.trans hf
                      by_cases n_97_3 : x1 = (3 : Int32)
                      · replace hf := (if_pos n_97_3).symm.trans hf
                        refine j_aald4 X 77 (wX_77 ..) (b := h 81) (by rw [n_97_3]; unfold vp_in; decide) (by rw [n_97_3]; rfl) dX11_move_97 ?_
                        refine j_iload_n X dX11_move_98 rfl rfl ?_
                        refine j_aload_n X dX11_move_99 rfl rfl ?_
                        refine j_get (C := RX11) (T := TX11) (N := 10) X iX11 0 (wX_0 ..) rfl 5 (by decide) k_315 rfl rfl dX11_move_100 ?_
                        refine j_iload_n X dX11_move_103 rfl rfl ?_
                        by_cases n_104_0 : x3 = (0 : Int32)
                        · replace hf := (if_pos n_104_0).symm.trans hf
                          refine j_aald4 X 77 (wX_77 ..) (b := h 78) (by rw [n_104_0]; unfold vp_in; decide) (by rw [n_104_0]; rfl) dX11_move_104 ?_
                          refine j_iload X dX11_move_105 rfl ?_
                          refine j_iload X dX11_move_107 rfl ?_
                          obtain ⟨c36, hf⟩ := oi_cp hf
                          obtain ⟨μ37, e_μ37, hf⟩ := bd_e hf
                          refine j_copyi X k_857 k_644 k_643 k_82 81 78 (wX_81 ..) (wX_78 ..) c36.1 c36.2.1 c36.2.2.1 c36.2.2.2.1 c36.2.2.2.2 (Nat.le_of_ble_eq_true rfl) (Nat.le_of_ble_eq_true rfl) dX11_move_109 (ws' := (wX E h g μ37)) (by rw [e_μ37]; exact wX_s78 ..) ?_
                          refine j_iload X dX11_move_112 rfl ?_
                          obtain rfl := Option.some.inj hf
                          exact j_iret X hr hlk rfl dX11_move_114 hQ
                        · replace hf := (if_neg n_104_0).symm.trans hf
                          by_cases n_104_1 : x3 = (1 : Int32)
                          · replace hf := (if_pos n_104_1).symm.trans hf
                            refine j_aald4 X 77 (wX_77 ..) (b := h 79) (by rw [n_104_1]; unfold vp_in; decide) (by rw [n_104_1]; rfl) dX11_move_104 ?_
                            refine j_iload X dX11_move_105 rfl ?_
                            refine j_iload X dX11_move_107 rfl ?_
                            obtain ⟨c38, hf⟩ := oi_cp hf
                            obtain ⟨μ39, e_μ39, hf⟩ := bd_e hf
                            refine j_copyi X k_857 k_644 k_643 k_82 81 79 (wX_81 ..) (wX_79 ..) c38.1 c38.2.1 c38.2.2.1 c38.2.2.2.1 c38.2.2.2.2 (Nat.le_of_ble_eq_true rfl) (Nat.le_of_ble_eq_true rfl) dX11_move_109 (ws' := (wX E h g μ39)) (by rw [e_μ39]; exact wX_s79 ..) ?_
                            refine j_iload X dX11_move_112 rfl ?_
                            obtain rfl := Option.some.inj hf
                            exact j_iret X hr hlk rfl dX11_move_114 hQ
                          · replace hf := (if_neg n_104_1).symm.trans hf
                            by_cases n_104_2 : x3 = (2 : Int32)
                            · replace hf := (if_pos n_104_2).symm.trans hf
                              refine j_aald4 X 77 (wX_77 ..) (b := h 80) (by rw [n_104_2]; unfold vp_in; decide) (by rw [n_104_2]; rfl) dX11_move_104 ?_
                              refine j_iload X dX11_move_105 rfl ?_
                              refine j_iload X dX11_move_107 rfl ?_
                              obtain ⟨c40, hf⟩ := oi_cp hf
                              obtain ⟨μ41, e_μ41, hf⟩ := bd_e hf
                              refine j_copyi X k_857 k_644 k_643 k_82 81 80 (wX_81 ..) (wX_80 ..) c40.1 c40.2.1 c40.2.2.1 c40.2.2.2.1 c40.2.2.2.2 (Nat.le_of_ble_eq_true rfl) (Nat.le_of_ble_eq_true rfl) dX11_move_109 (ws' := (wX E h g μ41)) (by rw [e_μ41]; exact wX_s80 ..) ?_
                              refine j_iload X dX11_move_112 rfl ?_
                              obtain rfl := Option.some.inj hf
                              exact j_iret X hr hlk rfl dX11_move_114 hQ
                            · replace hf := (if_neg n_104_2).symm.trans hf
                              by_cases n_104_3 : x3 = (3 : Int32)
                              · replace hf := (if_pos n_104_3).symm.trans hf
                                refine j_aald4 X 77 (wX_77 ..) (b := h 81) (by rw [n_104_3]; unfold vp_in; decide) (by rw [n_104_3]; rfl) dX11_move_104 ?_
                                refine j_iload X dX11_move_105 rfl ?_
                                refine j_iload X dX11_move_107 rfl ?_
                                obtain ⟨c42, hf⟩ := oi_cp hf
                                obtain ⟨μ43, e_μ43, hf⟩ := bd_e hf
                                refine j_copyi X k_857 k_644 k_643 k_82 81 81 (wX_81 ..) (wX_81 ..) c42.1 c42.2.1 c42.2.2.1 c42.2.2.2.1 c42.2.2.2.2 (Nat.le_of_ble_eq_true rfl) (Nat.le_of_ble_eq_true rfl) dX11_move_109 (ws' := (wX E h g μ43)) (by rw [e_μ43]; exact wX_s81 ..) ?_
                                refine j_iload X dX11_move_112 rfl ?_
                                obtain rfl := Option.some.inj hf
                                exact j_iret X hr hlk rfl dX11_move_114 hQ
                              · replace hf := (if_neg n_104_3).symm.trans hf
                                cases hf
                      · replace hf := (if_neg n_97_3).symm.trans hf
                        cases hf
              · replace hf := (if_pos c_83).symm.trans hf
                refine j_aload_n X dX11_move_86 rfl rfl ?_
                refine j_iconst (v := (1 : Int32)) X dX11_move_87 (by decide) ?_
                obtain ⟨q44, g_q44, hf⟩ := ob_t hf
                refine j_callV X [0, 1, 2, 3, 4, 5, 6, 7, 8, 9, 10, 11, 12, 13, 14, 15, 16, 17, 18, 19, 20, 21, 22, 23, 24, 25, 26, 27, 28, 29, 30, 31, 32, 33, 34, 35, 36, 37, 38, 39, 40, 41, 42, 43, 44, 45, 46, 47, 48, 49, 50, 51, 52, 53, 54, 55, 56, 57, 58, 59, 60, 61, 62, 63, 64, 65, 66, 67, 68, 69, 70, 71, 72, 73, 74, 75, 76, 77, 78, 79, 80, 81, 82, 83, 84] 0 (c_X11_fails E h g g_q44) (cut_wX_wX_c ..) rfl rfl (ws' := (wX E h g q44.1)) (cut_wX_wX_w ..) (wX_0 ..) rfl k_351 k_353 k_0 k_68 k_354 (⟨rfl, rfl⟩) hdV_X11_fails ⟨Nat.le_of_ble_eq_true rfl, Nat.le_of_ble_eq_true rfl⟩ rfl (Nat.le_of_ble_eq_true rfl) rfl dX11_move_88 ?_
                obtain rfl := Option.some.inj hf
                exact j_iret X hr hlk rfl dX11_move_91 hQ
          · replace hf := (if_neg c_54).symm.trans hf
            refine j_aload_n X dX11_move_57 rfl rfl ?_
            refine j_iconst (v := (5 : Int32)) X dX11_move_58 (by decide) ?_
            obtain ⟨q45, g_q45, hf⟩ := ob_t hf
            refine j_callV X [0, 1, 2, 3, 4, 5, 6, 7, 8, 9, 10, 11, 12, 13, 14, 15, 16, 17, 18, 19, 20, 21, 22, 23, 24, 25, 26, 27, 28, 29, 30, 31, 32, 33, 34, 35, 36, 37, 38, 39, 40, 41, 42, 43, 44, 45, 46, 47, 48, 49, 50, 51, 52, 53, 54, 55, 56, 57, 58, 59, 60, 61, 62, 63, 64, 65, 66, 67, 68, 69, 70, 71, 72, 73, 74, 75, 76, 77, 78, 79, 80, 81, 82, 83, 84] 0 (c_X11_fails E h g g_q45) (cut_wX_wX_c ..) rfl rfl (ws' := (wX E h g q45.1)) (cut_wX_wX_w ..) (wX_0 ..) rfl k_351 k_353 k_0 k_68 k_354 (⟨rfl, rfl⟩) hdV_X11_fails ⟨Nat.le_of_ble_eq_true rfl, Nat.le_of_ble_eq_true rfl⟩ rfl (Nat.le_of_ble_eq_true rfl) rfl dX11_move_59 ?_
            obtain rfl := Option.some.inj hf
            exact j_iret X hr hlk rfl dX11_move_62 hQ
        · replace hf := (if_neg c_33).symm.trans hf
          refine j_aload_n X dX11_move_36 rfl rfl ?_
          refine j_iconst (v := (2 : Int32)) X dX11_move_37 (by decide) ?_
          obtain ⟨q46, g_q46, hf⟩ := ob_t hf
          refine j_callV X [0, 1, 2, 3, 4, 5, 6, 7, 8, 9, 10, 11, 12, 13, 14, 15, 16, 17, 18, 19, 20, 21, 22, 23, 24, 25, 26, 27, 28, 29, 30, 31, 32, 33, 34, 35, 36, 37, 38, 39, 40, 41, 42, 43, 44, 45, 46, 47, 48, 49, 50, 51, 52, 53, 54, 55, 56, 57, 58, 59, 60, 61, 62, 63, 64, 65, 66, 67, 68, 69, 70, 71, 72, 73, 74, 75, 76, 77, 78, 79, 80, 81, 82, 83, 84] 0 (c_X11_fails E h g g_q46) (cut_wX_wX_c ..) rfl rfl (ws' := (wX E h g q46.1)) (cut_wX_wX_w ..) (wX_0 ..) rfl k_351 k_353 k_0 k_68 k_354 (⟨rfl, rfl⟩) hdV_X11_fails ⟨Nat.le_of_ble_eq_true rfl, Nat.le_of_ble_eq_true rfl⟩ rfl (Nat.le_of_ble_eq_true rfl) rfl dX11_move_38 ?_
          obtain rfl := Option.some.inj hf
          exact j_iret X hr hlk rfl dX11_move_41 hQ
    · replace hf := (if_pos c_11).symm.trans hf
      refine j_aload_n X dX11_move_14 rfl rfl ?_
      refine j_iconst (v := (1 : Int32)) X dX11_move_15 (by decide) ?_
      obtain ⟨q47, g_q47, hf⟩ := ob_t hf
      refine j_callV X [0, 1, 2, 3, 4, 5, 6, 7, 8, 9, 10, 11, 12, 13, 14, 15, 16, 17, 18, 19, 20, 21, 22, 23, 24, 25, 26, 27, 28, 29, 30, 31, 32, 33, 34, 35, 36, 37, 38, 39, 40, 41, 42, 43, 44, 45, 46, 47, 48, 49, 50, 51, 52, 53, 54, 55, 56, 57, 58, 59, 60, 61, 62, 63, 64, 65, 66, 67, 68, 69, 70, 71, 72, 73, 74, 75, 76, 77, 78, 79, 80, 81, 82, 83, 84] 0 (c_X11_fails E h g g_q47) (cut_wX_wX_c ..) rfl rfl (ws' := (wX E h g q47.1)) (cut_wX_wX_w ..) (wX_0 ..) rfl k_351 k_353 k_0 k_68 k_354 (⟨rfl, rfl⟩) hdV_X11_fails ⟨Nat.le_of_ble_eq_true rfl, Nat.le_of_ble_eq_true rfl⟩ rfl (Nat.le_of_ble_eq_true rfl) rfl dX11_move_16 ?_
      obtain rfl := Option.some.inj hf
      exact j_iret X hr hlk rfl dX11_move_19 hQ
def f_X11_flies_L29 : Nat → Mem → Int32 → Int32 → Option (Mem × Int32)
  | 0, _, _, _ => none
  | n + 1, μ, x1, x2 => (if inb x1 4 = true then (if (μ 83 x1.toNatClampNeg) ≤ x2 then some (μ, x2) else (if x1 = (0 : Int32) then (if inb x2 24 = true then (f_X11_isPost (μ 78 x2.toNatClampNeg)).bind fun q5 => ((if q5 = 0 then some (μ, x2) else (if x1 = (0 : Int32) then (if inb x2 24 = true then (f_X4_flyAt (sub [23, 24, 25, 26, 27, 28, 7, 8, 9, 10, 11, 12, 13, 14, 66, 67, 68, 69, 70, 71, 72, 73] μ) (μ 78 x2.toNatClampNeg)).bind fun q7 => (bd (put [23, 24, 25, 26, 27, 28, 7, 8, 9, 10, 11, 12, 13, 14, 66, 67, 68, 69, 70, 71, 72, 73] μ q7.1) fun μ8 => ((f_X11_flies_L29 n) μ8 x1 (x2 + (1 : Int32)))) else none) else (if x1 = (1 : Int32) then (if inb x2 24 = true then (f_X4_flyAt (sub [23, 24, 25, 26, 27, 28, 7, 8, 9, 10, 11, 12, 13, 14, 66, 67, 68, 69, 70, 71, 72, 73] μ) (μ 79 x2.toNatClampNeg)).bind fun q10 => (bd (put [23, 24, 25, 26, 27, 28, 7, 8, 9, 10, 11, 12, 13, 14, 66, 67, 68, 69, 70, 71, 72, 73] μ q10.1) fun μ11 => ((f_X11_flies_L29 n) μ11 x1 (x2 + (1 : Int32)))) else none) else (if x1 = (2 : Int32) then (if inb x2 24 = true then (f_X4_flyAt (sub [23, 24, 25, 26, 27, 28, 7, 8, 9, 10, 11, 12, 13, 14, 66, 67, 68, 69, 70, 71, 72, 73] μ) (μ 80 x2.toNatClampNeg)).bind fun q13 => (bd (put [23, 24, 25, 26, 27, 28, 7, 8, 9, 10, 11, 12, 13, 14, 66, 67, 68, 69, 70, 71, 72, 73] μ q13.1) fun μ14 => ((f_X11_flies_L29 n) μ14 x1 (x2 + (1 : Int32)))) else none) else (if x1 = (3 : Int32) then (if inb x2 24 = true then (f_X4_flyAt (sub [23, 24, 25, 26, 27, 28, 7, 8, 9, 10, 11, 12, 13, 14, 66, 67, 68, 69, 70, 71, 72, 73] μ) (μ 81 x2.toNatClampNeg)).bind fun q16 => (bd (put [23, 24, 25, 26, 27, 28, 7, 8, 9, 10, 11, 12, 13, 14, 66, 67, 68, 69, 70, 71, 72, 73] μ q16.1) fun μ17 => ((f_X11_flies_L29 n) μ17 x1 (x2 + (1 : Int32)))) else none) else none)))))) else none) else (if x1 = (1 : Int32) then (if inb x2 24 = true then (f_X11_isPost (μ 79 x2.toNatClampNeg)).bind fun q19 => ((if q19 = 0 then some (μ, x2) else (if x1 = (0 : Int32) then (if inb x2 24 = true then (f_X4_flyAt (sub [23, 24, 25, 26, 27, 28, 7, 8, 9, 10, 11, 12, 13, 14, 66, 67, 68, 69, 70, 71, 72, 73] μ) (μ 78 x2.toNatClampNeg)).bind fun q21 => (bd (put [23, 24, 25, 26, 27, 28, 7, 8, 9, 10, 11, 12, 13, 14, 66, 67, 68, 69, 70, 71, 72, 73] μ q21.1) fun μ22 => ((f_X11_flies_L29 n) μ22 x1 (x2 + (1 : Int32)))) else none) else (if x1 = (1 : Int32) then (if inb x2 24 = true then (f_X4_flyAt (sub [23, 24, 25, 26, 27, 28, 7, 8, 9, 10, 11, 12, 13, 14, 66, 67, 68, 69, 70, 71, 72, 73] μ) (μ 79 x2.toNatClampNeg)).bind fun q24 => (bd (put [23, 24, 25, 26, 27, 28, 7, 8, 9, 10, 11, 12, 13, 14, 66, 67, 68, 69, 70, 71, 72, 73] μ q24.1) fun μ25 => ((f_X11_flies_L29 n) μ25 x1 (x2 + (1 : Int32)))) else none) else (if x1 = (2 : Int32) then (if inb x2 24 = true then (f_X4_flyAt (sub [23, 24, 25, 26, 27, 28, 7, 8, 9, 10, 11, 12, 13, 14, 66, 67, 68, 69, 70, 71, 72, 73] μ) (μ 80 x2.toNatClampNeg)).bind fun q27 => (bd (put [23, 24, 25, 26, 27, 28, 7, 8, 9, 10, 11, 12, 13, 14, 66, 67, 68, 69, 70, 71, 72, 73] μ q27.1) fun μ28 => ((f_X11_flies_L29 n) μ28 x1 (x2 + (1 : Int32)))) else none) else (if x1 = (3 : Int32) then (if inb x2 24 = true then (f_X4_flyAt (sub [23, 24, 25, 26, 27, 28, 7, 8, 9, 10, 11, 12, 13, 14, 66, 67, 68, 69, 70, 71, 72, 73] μ) (μ 81 x2.toNatClampNeg)).bind fun q30 => (bd (put [23, 24, 25, 26, 27, 28, 7, 8, 9, 10, 11, 12, 13, 14, 66, 67, 68, 69, 70, 71, 72, 73] μ q30.1) fun μ31 => ((f_X11_flies_L29 n) μ31 x1 (x2 + (1 : Int32)))) else none) else none)))))) else none) else (if x1 = (2 : Int32) then (if inb x2 24 = true then (f_X11_isPost (μ 80 x2.toNatClampNeg)).bind fun q33 => ((if q33 = 0 then some (μ, x2) else (if x1 = (0 : Int32) then (if inb x2 24 = true then (f_X4_flyAt (sub [23, 24, 25, 26, 27, 28, 7, 8, 9, 10, 11, 12, 13, 14, 66, 67, 68, 69, 70, 71, 72, 73] μ) (μ 78 x2.toNatClampNeg)).bind fun q35 => (bd (put [23, 24, 25, 26, 27, 28, 7, 8, 9, 10, 11, 12, 13, 14, 66, 67, 68, 69, 70, 71, 72, 73] μ q35.1) fun μ36 => ((f_X11_flies_L29 n) μ36 x1 (x2 + (1 : Int32)))) else none) else (if x1 = (1 : Int32) then (if inb x2 24 = true then (f_X4_flyAt (sub [23, 24, 25, 26, 27, 28, 7, 8, 9, 10, 11, 12, 13, 14, 66, 67, 68, 69, 70, 71, 72, 73] μ) (μ 79 x2.toNatClampNeg)).bind fun q38 => (bd (put [23, 24, 25, 26, 27, 28, 7, 8, 9, 10, 11, 12, 13, 14, 66, 67, 68, 69, 70, 71, 72, 73] μ q38.1) fun μ39 => ((f_X11_flies_L29 n) μ39 x1 (x2 + (1 : Int32)))) else none) else (if x1 = (2 : Int32) then (if inb x2 24 = true then (f_X4_flyAt (sub [23, 24, 25, 26, 27, 28, 7, 8, 9, 10, 11, 12, 13, 14, 66, 67, 68, 69, 70, 71, 72, 73] μ) (μ 80 x2.toNatClampNeg)).bind fun q41 => (bd (put [23, 24, 25, 26, 27, 28, 7, 8, 9, 10, 11, 12, 13, 14, 66, 67, 68, 69, 70, 71, 72, 73] μ q41.1) fun μ42 => ((f_X11_flies_L29 n) μ42 x1 (x2 + (1 : Int32)))) else none) else (if x1 = (3 : Int32) then (if inb x2 24 = true then (f_X4_flyAt (sub [23, 24, 25, 26, 27, 28, 7, 8, 9, 10, 11, 12, 13, 14, 66, 67, 68, 69, 70, 71, 72, 73] μ) (μ 81 x2.toNatClampNeg)).bind fun q44 => (bd (put [23, 24, 25, 26, 27, 28, 7, 8, 9, 10, 11, 12, 13, 14, 66, 67, 68, 69, 70, 71, 72, 73] μ q44.1) fun μ45 => ((f_X11_flies_L29 n) μ45 x1 (x2 + (1 : Int32)))) else none) else none)))))) else none) else (if x1 = (3 : Int32) then (if inb x2 24 = true then (f_X11_isPost (μ 81 x2.toNatClampNeg)).bind fun q47 => ((if q47 = 0 then some (μ, x2) else (if x1 = (0 : Int32) then (if inb x2 24 = true then (f_X4_flyAt (sub [23, 24, 25, 26, 27, 28, 7, 8, 9, 10, 11, 12, 13, 14, 66, 67, 68, 69, 70, 71, 72, 73] μ) (μ 78 x2.toNatClampNeg)).bind fun q49 => (bd (put [23, 24, 25, 26, 27, 28, 7, 8, 9, 10, 11, 12, 13, 14, 66, 67, 68, 69, 70, 71, 72, 73] μ q49.1) fun μ50 => ((f_X11_flies_L29 n) μ50 x1 (x2 + (1 : Int32)))) else none) else (if x1 = (1 : Int32) then (if inb x2 24 = true then (f_X4_flyAt (sub [23, 24, 25, 26, 27, 28, 7, 8, 9, 10, 11, 12, 13, 14, 66, 67, 68, 69, 70, 71, 72, 73] μ) (μ 79 x2.toNatClampNeg)).bind fun q52 => (bd (put [23, 24, 25, 26, 27, 28, 7, 8, 9, 10, 11, 12, 13, 14, 66, 67, 68, 69, 70, 71, 72, 73] μ q52.1) fun μ53 => ((f_X11_flies_L29 n) μ53 x1 (x2 + (1 : Int32)))) else none) else (if x1 = (2 : Int32) then (if inb x2 24 = true then (f_X4_flyAt (sub [23, 24, 25, 26, 27, 28, 7, 8, 9, 10, 11, 12, 13, 14, 66, 67, 68, 69, 70, 71, 72, 73] μ) (μ 80 x2.toNatClampNeg)).bind fun q55 => (bd (put [23, 24, 25, 26, 27, 28, 7, 8, 9, 10, 11, 12, 13, 14, 66, 67, 68, 69, 70, 71, 72, 73] μ q55.1) fun μ56 => ((f_X11_flies_L29 n) μ56 x1 (x2 + (1 : Int32)))) else none) else (if x1 = (3 : Int32) then (if inb x2 24 = true then (f_X4_flyAt (sub [23, 24, 25, 26, 27, 28, 7, 8, 9, 10, 11, 12, 13, 14, 66, 67, 68, 69, 70, 71, 72, 73] μ) (μ 81 x2.toNatClampNeg)).bind fun q58 => (bd (put [23, 24, 25, 26, 27, 28, 7, 8, 9, 10, 11, 12, 13, 14, 66, 67, 68, 69, 70, 71, 72, 73] μ q58.1) fun μ59 => ((f_X11_flies_L29 n) μ59 x1 (x2 + (1 : Int32)))) else none) else none)))))) else none) else none))))) else none)
def f_X11_flies (μ : Mem) (x1 : Int32) : Option (Mem × Int32) := (f_X11_isSheet x1).bind fun q1 => ((if q1 = 0 then (f_X11_fails μ (1 : Int32)).bind fun q61 => (some (q61.1, q61.2)) else (f_X11_isMissing μ x1).bind fun q2 => ((if q2.2 = 0 then f_X11_flies_L29 fuel0 q2.1 x1 (0 : Int32) else (f_X11_fails q2.1 (2 : Int32)).bind fun q60 => (some (q60.1, q60.2))))))
set_option maxHeartbeats 4000000 in
set_option maxRecDepth 20000 in
theorem c_X11_flies (E : Ev) (h : Nat → Nat) (g : Nat → Option Nat) {μ : Mem} {x1 : Int32} {r : (Mem × Int32)} (hf : f_X11_flies μ x1 = some r) : Ct E yX11_flies cX11_flies 3 (some .int) (rmOf 5 115) (wX E h g μ) (wX E h g r.1) [.ref (h 0), .int x1] (some (.int r.2)) := by
  refine ct_start RX11 1 (by decide) rfl (Nat.le_of_ble_eq_true rfl) ?_
  intro p l e s m args below meth c A Q X hr hlk hQ
  have lab29 : ∀ (n : Nat) (μ : Mem) (x1 : Int32) (x2 : Int32), f_X11_flies_L29 n μ x1 x2 = some r → J p l e (rmOf 5 115) s m args below meth c E A 3 Q (wX E h g μ) [some (.ref (h 0)), some (.int x1), some (.int x2)] 29 [] := by
    intro n
    induction n with
    | zero => intro μ x1 x2 hf; cases (show none = some r from hf)
    | succ n ih =>
      intro μ x1 x2 hf
      rw [f_X11_flies_L29] at hf
      refine j_iload_n X dX11_flies_29 rfl rfl ?_
      refine j_aload_n X dX11_flies_30 rfl rfl ?_
      refine j_get (C := RX11) (T := TX11) (N := 10) X iX11 0 (wX_0 ..) rfl 7 (by decide) k_317 rfl rfl dX11_flies_31 ?_
      refine j_iload_n X dX11_flies_34 rfl rfl ?_
      obtain ⟨c3, hf⟩ := oi_in hf
      refine j_iald X 83 (wX_83 ..) c3 dX11_flies_35 ?_
      refine j_icmp_ge (tgt := 78) X dX11_flies_36 (by decide) (fun c_36 => ?_) (fun c_36 => ?_)
      · replace hf := (if_pos c_36).symm.trans hf
        refine j_iload_n X dX11_flies_78 rfl rfl ?_
        obtain rfl := Option.some.inj hf
        exact j_iret X hr hlk rfl dX11_flies_79 hQ
      · replace hf := (if_neg c_36).symm.trans hf
        refine j_aload_n X dX11_flies_39 rfl rfl ?_
        refine j_get (C := RX11) (T := TX11) (N := 10) X iX11 0 (wX_0 ..) rfl 5 (by decide) k_315 rfl rfl dX11_flies_40 ?_
        refine j_iload_n X dX11_flies_43 rfl rfl ?_
        by_cases n_44_0 : x1 = (0 : Int32)
        · replace hf := (if_pos n_44_0).symm.trans hf
          refine j_aald4 X 77 (wX_77 ..) (b := h 78) (by rw [n_44_0]; unfold vp_in; decide) (by rw [n_44_0]; rfl) dX11_flies_44 ?_
          refine j_iload_n X dX11_flies_45 rfl rfl ?_
          obtain ⟨c4, hf⟩ := oi_in hf
          refine j_iald X 78 (wX_78 ..) c4 dX11_flies_46 ?_
          obtain ⟨q5, g_q5, hf⟩ := ob_t hf
          refine j_callS X [] (c_X11_isPost E g_q5) rfl rfl rfl (ws' := (wX E h g μ)) rfl k_500 k_501 k_68 k_502 (⟨rfl, rfl⟩) hdS_X11_isPost ⟨Nat.le_of_ble_eq_true rfl, Nat.le_of_ble_eq_true rfl⟩ rfl (Nat.le_of_ble_eq_true rfl) rfl dX11_flies_47 ?_
          refine j_if_eq (tgt := 78) X dX11_flies_50 (by decide) (fun c_50 => ?_) (fun c_50 => ?_)
          · replace hf := (if_pos c_50).symm.trans hf
            refine j_iload_n X dX11_flies_78 rfl rfl ?_
            obtain rfl := Option.some.inj hf
            exact j_iret X hr hlk rfl dX11_flies_79 hQ
          · replace hf := (if_neg c_50).symm.trans hf
            refine j_aload_n X dX11_flies_53 rfl rfl ?_
            refine j_get (C := RX11) (T := TX11) (N := 10) X iX11 0 (wX_0 ..) rfl 0 (by decide) k_310 rfl rfl dX11_flies_54 ?_
            refine j_get (C := RX5) (T := TX5) (N := 8) X iX5 1 (wX_1 ..) rfl 2 (by decide) k_239 rfl rfl dX11_flies_57 ?_
            refine j_aload_n X dX11_flies_60 rfl rfl ?_
            refine j_get (C := RX11) (T := TX11) (N := 10) X iX11 0 (wX_0 ..) rfl 5 (by decide) k_315 rfl rfl dX11_flies_61 ?_
            refine j_iload_n X dX11_flies_64 rfl rfl ?_
            by_cases n_65_0 : x1 = (0 : Int32)
            · replace hf := (if_pos n_65_0).symm.trans hf
              refine j_aald4 X 77 (wX_77 ..) (b := h 78) (by rw [n_65_0]; unfold vp_in; decide) (by rw [n_65_0]; rfl) dX11_flies_65 ?_
              refine j_iload_n X dX11_flies_66 rfl rfl ?_
              obtain ⟨c6, hf⟩ := oi_in hf
              refine j_iald X 78 (wX_78 ..) c6 dX11_flies_67 ?_
              obtain ⟨q7, g_q7, hf⟩ := ob_t hf
              obtain ⟨μ8, e_μ8, hf⟩ := bd_e hf
              refine j_callV X [23, 24, 25, 26, 27, 28, 7, 8, 9, 10, 11, 12, 13, 14, 66, 67, 68, 69, 70, 71, 72, 73] 0 (c_X4_flyAt E (fun j => h (List.getD [23, 24, 25, 26, 27, 28, 7, 8, 9, 10, 11, 12, 13, 14, 66, 67, 68, 69, 70, 71, 72, 73] j 0)) (fun j => g (List.getD [0, 1] j 0)) g_q7) (cut_wX_wR_23_24_25_c ..) rfl rfl (ws' := (wX E h g μ8)) (by rw [e_μ8]; exact cut_wX_wR_23_24_25_w ..) (wR_0 ..) rfl k_603 k_604 k_605 k_78 k_606 (⟨rfl, rfl⟩) hdV_X4_flyAt ⟨Nat.le_of_ble_eq_true rfl, Nat.le_of_ble_eq_true rfl⟩ rfl (Nat.le_of_ble_eq_true rfl) rfl dX11_flies_68 ?_
              refine j_pop X dX11_flies_71 rfl ?_
              refine j_iinc2 (k := (1 : Int32)) X dX11_flies_72 (by decide) (by decide) rfl ?_
              refine j_goto (tgt := 29) X dX11_flies_75 (by decide) ?_
              refine j_keep [true, true, true] rfl ?_
              exact ih _ _ _ hf
            · replace hf := (if_neg n_65_0).symm.trans hf
              by_cases n_65_1 : x1 = (1 : Int32)
              · replace hf := (if_pos n_65_1).symm.trans hf
                refine j_aald4 X 77 (wX_77 ..) (b := h 79) (by rw [n_65_1]; unfold vp_in; decide) (by rw [n_65_1]; rfl) dX11_flies_65 ?_
                refine j_iload_n X dX11_flies_66 rfl rfl ?_
                obtain ⟨c9, hf⟩ := oi_in hf
                refine j_iald X 79 (wX_79 ..) c9 dX11_flies_67 ?_
                obtain ⟨q10, g_q10, hf⟩ := ob_t hf
                obtain ⟨μ11, e_μ11, hf⟩ := bd_e hf
                refine j_callV X [23, 24, 25, 26, 27, 28, 7, 8, 9, 10, 11, 12, 13, 14, 66, 67, 68, 69, 70, 71, 72, 73] 0 (c_X4_flyAt E (fun j => h (List.getD [23, 24, 25, 26, 27, 28, 7, 8, 9, 10, 11, 12, 13, 14, 66, 67, 68, 69, 70, 71, 72, 73] j 0)) (fun j => g (List.getD [0, 1] j 0)) g_q10) (cut_wX_wR_23_24_25_c ..) rfl rfl (ws' := (wX E h g μ11)) (by rw [e_μ11]; exact cut_wX_wR_23_24_25_w ..) (wR_0 ..) rfl k_603 k_604 k_605 k_78 k_606 (⟨rfl, rfl⟩) hdV_X4_flyAt ⟨Nat.le_of_ble_eq_true rfl, Nat.le_of_ble_eq_true rfl⟩ rfl (Nat.le_of_ble_eq_true rfl) rfl dX11_flies_68 ?_
                refine j_pop X dX11_flies_71 rfl ?_
                refine j_iinc2 (k := (1 : Int32)) X dX11_flies_72 (by decide) (by decide) rfl ?_
                refine j_goto (tgt := 29) X dX11_flies_75 (by decide) ?_
                refine j_keep [true, true, true] rfl ?_
                exact ih _ _ _ hf
              · replace hf := (if_neg n_65_1).symm.trans hf
                by_cases n_65_2 : x1 = (2 : Int32)
                · replace hf := (if_pos n_65_2).symm.trans hf
                  refine j_aald4 X 77 (wX_77 ..) (b := h 80) (by rw [n_65_2]; unfold vp_in; decide) (by rw [n_65_2]; rfl) dX11_flies_65 ?_
                  refine j_iload_n X dX11_flies_66 rfl rfl ?_
                  obtain ⟨c12, hf⟩ := oi_in hf
                  refine j_iald X 80 (wX_80 ..) c12 dX11_flies_67 ?_
                  obtain ⟨q13, g_q13, hf⟩ := ob_t hf
                  obtain ⟨μ14, e_μ14, hf⟩ := bd_e hf
                  refine j_callV X [23, 24, 25, 26, 27, 28, 7, 8, 9, 10, 11, 12, 13, 14, 66, 67, 68, 69, 70, 71, 72, 73] 0 (c_X4_flyAt E (fun j => h (List.getD [23, 24, 25, 26, 27, 28, 7, 8, 9, 10, 11, 12, 13, 14, 66, 67, 68, 69, 70, 71, 72, 73] j 0)) (fun j => g (List.getD [0, 1] j 0)) g_q13) (cut_wX_wR_23_24_25_c ..) rfl rfl (ws' := (wX E h g μ14)) (by rw [e_μ14]; exact cut_wX_wR_23_24_25_w ..) (wR_0 ..) rfl k_603 k_604 k_605 k_78 k_606 (⟨rfl, rfl⟩) hdV_X4_flyAt ⟨Nat.le_of_ble_eq_true rfl, Nat.le_of_ble_eq_true rfl⟩ rfl (Nat.le_of_ble_eq_true rfl) rfl dX11_flies_68 ?_
                  refine j_pop X dX11_flies_71 rfl ?_
                  refine j_iinc2 (k := (1 : Int32)) X dX11_flies_72 (by decide) (by decide) rfl ?_
                  refine j_goto (tgt := 29) X dX11_flies_75 (by decide) ?_
                  refine j_keep [true, true, true] rfl ?_
                  exact ih _ _ _ hf
                · replace hf := (if_neg n_65_2).symm.trans hf
                  by_cases n_65_3 : x1 = (3 : Int32)
                  · replace hf := (if_pos n_65_3).symm.trans hf
                    refine j_aald4 X 77 (wX_77 ..) (b := h 81) (by rw [n_65_3]; unfold vp_in; decide) (by rw [n_65_3]; rfl) dX11_flies_65 ?_
                    refine j_iload_n X dX11_flies_66 rfl rfl ?_
                    obtain ⟨c15, hf⟩ := oi_in hf
                    refine j_iald X 81 (wX_81 ..) c15 dX11_flies_67 ?_
                    obtain ⟨q16, g_q16, hf⟩ := ob_t hf
                    obtain ⟨μ17, e_μ17, hf⟩ := bd_e hf
                    refine j_callV X [23, 24, 25, 26, 27, 28, 7, 8, 9, 10, 11, 12, 13, 14, 66, 67, 68, 69, 70, 71, 72, 73] 0 (c_X4_flyAt E (fun j => h (List.getD [23, 24, 25, 26, 27, 28, 7, 8, 9, 10, 11, 12, 13, 14, 66, 67, 68, 69, 70, 71, 72, 73] j 0)) (fun j => g (List.getD [0, 1] j 0)) g_q16) (cut_wX_wR_23_24_25_c ..) rfl rfl (ws' := (wX E h g μ17)) (by rw [e_μ17]; exact cut_wX_wR_23_24_25_w ..) (wR_0 ..) rfl k_603 k_604 k_605 k_78 k_606 (⟨rfl, rfl⟩) hdV_X4_flyAt ⟨Nat.le_of_ble_eq_true rfl, Nat.le_of_ble_eq_true rfl⟩ rfl (Nat.le_of_ble_eq_true rfl) rfl dX11_flies_68 ?_
                    refine j_pop X dX11_flies_71 rfl ?_
                    refine j_iinc2 (k := (1 : Int32)) X dX11_flies_72 (by decide) (by decide) rfl ?_
                    refine j_goto (tgt := 29) X dX11_flies_75 (by decide) ?_
                    refine j_keep [true, true, true] rfl ?_
                    exact ih _ _ _ hf
                  · replace hf := (if_neg n_65_3).symm.trans hf
                    cases hf
        · replace hf := (if_neg n_44_0).symm.trans hf
          by_cases n_44_1 : x1 = (1 : Int32)
          · replace hf := (if_pos n_44_1).symm.trans hf
            refine j_aald4 X 77 (wX_77 ..) (b := h 79) (by rw [n_44_1]; unfold vp_in; decide) (by rw [n_44_1]; rfl) dX11_flies_44 ?_
            refine j_iload_n X dX11_flies_45 rfl rfl ?_
            obtain ⟨c18, hf⟩ := oi_in hf
            refine j_iald X 79 (wX_79 ..) c18 dX11_flies_46 ?_
            obtain ⟨q19, g_q19, hf⟩ := ob_t hf
            refine j_callS X [] (c_X11_isPost E g_q19) rfl rfl rfl (ws' := (wX E h g μ)) rfl k_500 k_501 k_68 k_502 (⟨rfl, rfl⟩) hdS_X11_isPost ⟨Nat.le_of_ble_eq_true rfl, Nat.le_of_ble_eq_true rfl⟩ rfl (Nat.le_of_ble_eq_true rfl) rfl dX11_flies_47 ?_
            refine j_if_eq (tgt := 78) X dX11_flies_50 (by decide) (fun c_50 => ?_) (fun c_50 => ?_)
            · replace hf := (if_pos c_50).symm.trans hf
              refine j_iload_n X dX11_flies_78 rfl rfl ?_
              obtain rfl := Option.some.inj hf
              exact j_iret X hr hlk rfl dX11_flies_79 hQ
            · replace hf := (if_neg c_50).symm.trans hf
              refine j_aload_n X dX11_flies_53 rfl rfl ?_
              refine j_get (C := RX11) (T := TX11) (N := 10) X iX11 0 (wX_0 ..) rfl 0 (by decide) k_310 rfl rfl dX11_flies_54 ?_
              refine j_get (C := RX5) (T := TX5) (N := 8) X iX5 1 (wX_1 ..) rfl 2 (by decide) k_239 rfl rfl dX11_flies_57 ?_
              refine j_aload_n X dX11_flies_60 rfl rfl ?_
              refine j_get (C := RX11) (T := TX11) (N := 10) X iX11 0 (wX_0 ..) rfl 5 (by decide) k_315 rfl rfl dX11_flies_61 ?_
              refine j_iload_n X dX11_flies_64 rfl rfl ?_
              by_cases n_65_0 : x1 = (0 : Int32)
              · replace hf := (if_pos n_65_0).symm.trans hf
                refine j_aald4 X 77 (wX_77 ..) (b := h 78) (by rw [n_65_0]; unfold vp_in; decide) (by rw [n_65_0]; rfl) dX11_flies_65 ?_
                refine j_iload_n X dX11_flies_66 rfl rfl ?_
                obtain ⟨c20, hf⟩ := oi_in hf
                refine j_iald X 78 (wX_78 ..) c20 dX11_flies_67 ?_
                obtain ⟨q21, g_q21, hf⟩ := ob_t hf
                obtain ⟨μ22, e_μ22, hf⟩ := bd_e hf
                refine j_callV X [23, 24, 25, 26, 27, 28, 7, 8, 9, 10, 11, 12, 13, 14, 66, 67, 68, 69, 70, 71, 72, 73] 0 (c_X4_flyAt E (fun j => h (List.getD [23, 24, 25, 26, 27, 28, 7, 8, 9, 10, 11, 12, 13, 14, 66, 67, 68, 69, 70, 71, 72, 73] j 0)) (fun j => g (List.getD [0, 1] j 0)) g_q21) (cut_wX_wR_23_24_25_c ..) rfl rfl (ws' := (wX E h g μ22)) (by rw [e_μ22]; exact cut_wX_wR_23_24_25_w ..) (wR_0 ..) rfl k_603 k_604 k_605 k_78 k_606 (⟨rfl, rfl⟩) hdV_X4_flyAt ⟨Nat.le_of_ble_eq_true rfl, Nat.le_of_ble_eq_true rfl⟩ rfl (Nat.le_of_ble_eq_true rfl) rfl dX11_flies_68 ?_
                refine j_pop X dX11_flies_71 rfl ?_
                refine j_iinc2 (k := (1 : Int32)) X dX11_flies_72 (by decide) (by decide) rfl ?_
                refine j_goto (tgt := 29) X dX11_flies_75 (by decide) ?_
                refine j_keep [true, true, true] rfl ?_
                exact ih _ _ _ hf
              · replace hf := (if_neg n_65_0).symm.trans hf
                by_cases n_65_1 : x1 = (1 : Int32)
                · replace hf := (if_pos n_65_1).symm.trans hf
                  refine j_aald4 X 77 (wX_77 ..) (b := h 79) (by rw [n_65_1]; unfold vp_in; decide) (by rw [n_65_1]; rfl) dX11_flies_65 ?_
                  refine j_iload_n X dX11_flies_66 rfl rfl ?_
                  obtain ⟨c23, hf⟩ := oi_in hf
                  refine j_iald X 79 (wX_79 ..) c23 dX11_flies_67 ?_
                  obtain ⟨q24, g_q24, hf⟩ := ob_t hf
                  obtain ⟨μ25, e_μ25, hf⟩ := bd_e hf
                  refine j_callV X [23, 24, 25, 26, 27, 28, 7, 8, 9, 10, 11, 12, 13, 14, 66, 67, 68, 69, 70, 71, 72, 73] 0 (c_X4_flyAt E (fun j => h (List.getD [23, 24, 25, 26, 27, 28, 7, 8, 9, 10, 11, 12, 13, 14, 66, 67, 68, 69, 70, 71, 72, 73] j 0)) (fun j => g (List.getD [0, 1] j 0)) g_q24) (cut_wX_wR_23_24_25_c ..) rfl rfl (ws' := (wX E h g μ25)) (by rw [e_μ25]; exact cut_wX_wR_23_24_25_w ..) (wR_0 ..) rfl k_603 k_604 k_605 k_78 k_606 (⟨rfl, rfl⟩) hdV_X4_flyAt ⟨Nat.le_of_ble_eq_true rfl, Nat.le_of_ble_eq_true rfl⟩ rfl (Nat.le_of_ble_eq_true rfl) rfl dX11_flies_68 ?_
                  refine j_pop X dX11_flies_71 rfl ?_
                  refine j_iinc2 (k := (1 : Int32)) X dX11_flies_72 (by decide) (by decide) rfl ?_
                  refine j_goto (tgt := 29) X dX11_flies_75 (by decide) ?_
                  refine j_keep [true, true, true] rfl ?_
                  exact ih _ _ _ hf
                · replace hf := (if_neg n_65_1).symm.trans hf
                  by_cases n_65_2 : x1 = (2 : Int32)
                  · replace hf := (if_pos n_65_2).symm.trans hf
                    refine j_aald4 X 77 (wX_77 ..) (b := h 80) (by rw [n_65_2]; unfold vp_in; decide) (by rw [n_65_2]; rfl) dX11_flies_65 ?_
                    refine j_iload_n X dX11_flies_66 rfl rfl ?_
                    obtain ⟨c26, hf⟩ := oi_in hf
                    refine j_iald X 80 (wX_80 ..) c26 dX11_flies_67 ?_
                    obtain ⟨q27, g_q27, hf⟩ := ob_t hf
                    obtain ⟨μ28, e_μ28, hf⟩ := bd_e hf
                    refine j_callV X [23, 24, 25, 26, 27, 28, 7, 8, 9, 10, 11, 12, 13, 14, 66, 67, 68, 69, 70, 71, 72, 73] 0 (c_X4_flyAt E (fun j => h (List.getD [23, 24, 25, 26, 27, 28, 7, 8, 9, 10, 11, 12, 13, 14, 66, 67, 68, 69, 70, 71, 72, 73] j 0)) (fun j => g (List.getD [0, 1] j 0)) g_q27) (cut_wX_wR_23_24_25_c ..) rfl rfl (ws' := (wX E h g μ28)) (by rw [e_μ28]; exact cut_wX_wR_23_24_25_w ..) (wR_0 ..) rfl k_603 k_604 k_605 k_78 k_606 (⟨rfl, rfl⟩) hdV_X4_flyAt ⟨Nat.le_of_ble_eq_true rfl, Nat.le_of_ble_eq_true rfl⟩ rfl (Nat.le_of_ble_eq_true rfl) rfl dX11_flies_68 ?_
                    refine j_pop X dX11_flies_71 rfl ?_
                    refine j_iinc2 (k := (1 : Int32)) X dX11_flies_72 (by decide) (by decide) rfl ?_
                    refine j_goto (tgt := 29) X dX11_flies_75 (by decide) ?_
                    refine j_keep [true, true, true] rfl ?_
                    exact ih _ _ _ hf
                  · replace hf := (if_neg n_65_2).symm.trans hf
                    by_cases n_65_3 : x1 = (3 : Int32)
                    · replace hf := (if_pos n_65_3).symm.trans hf
                      refine j_aald4 X 77 (wX_77 ..) (b := h 81) (by rw [n_65_3]; unfold vp_in; decide) (by rw [n_65_3]; rfl) dX11_flies_65 ?_
                      refine j_iload_n X dX11_flies_66 rfl rfl ?_
                      obtain ⟨c29, hf⟩ := oi_in hf
                      refine j_iald X 81 (wX_81 ..) c29 dX11_flies_67 ?_
                      obtain ⟨q30, g_q30, hf⟩ := ob_t hf
                      obtain ⟨μ31, e_μ31, hf⟩ := bd_e hf
                      refine j_callV X [23, 24, 25, 26, 27, 28, 7, 8, 9, 10, 11, 12, 13, 14, 66, 67, 68, 69, 70, 71, 72, 73] 0 (c_X4_flyAt E (fun j => h (List.getD [23, 24, 25, 26, 27, 28, 7, 8, 9, 10, 11, 12, 13, 14, 66, 67, 68, 69, 70, 71, 72, 73] j 0)) (fun j => g (List.getD [0, 1] j 0)) g_q30) (cut_wX_wR_23_24_25_c ..) rfl rfl (ws' := (wX E h g μ31)) (by rw [e_μ31]; exact cut_wX_wR_23_24_25_w ..) (wR_0 ..) rfl k_603 k_604 k_605 k_78 k_606 (⟨rfl, rfl⟩) hdV_X4_flyAt ⟨Nat.le_of_ble_eq_true rfl, Nat.le_of_ble_eq_true rfl⟩ rfl (Nat.le_of_ble_eq_true rfl) rfl dX11_flies_68 ?_
                      refine j_pop X dX11_flies_71 rfl ?_
                      refine j_iinc2 (k := (1 : Int32)) X dX11_flies_72 (by decide) (by decide) rfl ?_
                      refine j_goto (tgt := 29) X dX11_flies_75 (by decide) ?_
                      refine j_keep [true, true, true] rfl ?_
                      exact ih _ _ _ hf
                    · replace hf := (if_neg n_65_3).symm.trans hf
                      cases hf
          · replace hf := (if_neg n_44_1).symm.trans hf
            by_cases n_44_2 : x1 = (2 : Int32)
            · replace hf := (if_pos n_44_2).symm.trans hf
              refine j_aald4 X 77 (wX_77 ..) (b := h 80) (by rw [n_44_2]; unfold vp_in; decide) (by rw [n_44_2]; rfl) dX11_flies_44 ?_
              refine j_iload_n X dX11_flies_45 rfl rfl ?_
              obtain ⟨c32, hf⟩ := oi_in hf
              refine j_iald X 80 (wX_80 ..) c32 dX11_flies_46 ?_
              obtain ⟨q33, g_q33, hf⟩ := ob_t hf
              refine j_callS X [] (c_X11_isPost E g_q33) rfl rfl rfl (ws' := (wX E h g μ)) rfl k_500 k_501 k_68 k_502 (⟨rfl, rfl⟩) hdS_X11_isPost ⟨Nat.le_of_ble_eq_true rfl, Nat.le_of_ble_eq_true rfl⟩ rfl (Nat.le_of_ble_eq_true rfl) rfl dX11_flies_47 ?_
              refine j_if_eq (tgt := 78) X dX11_flies_50 (by decide) (fun c_50 => ?_) (fun c_50 => ?_)
              · replace hf := (if_pos c_50).symm.trans hf
                refine j_iload_n X dX11_flies_78 rfl rfl ?_
                obtain rfl := Option.some.inj hf
                exact j_iret X hr hlk rfl dX11_flies_79 hQ
              · replace hf := (if_neg c_50).symm.trans hf
                refine j_aload_n X dX11_flies_53 rfl rfl ?_
                refine j_get (C := RX11) (T := TX11) (N := 10) X iX11 0 (wX_0 ..) rfl 0 (by decide) k_310 rfl rfl dX11_flies_54 ?_
                refine j_get (C := RX5) (T := TX5) (N := 8) X iX5 1 (wX_1 ..) rfl 2 (by decide) k_239 rfl rfl dX11_flies_57 ?_
                refine j_aload_n X dX11_flies_60 rfl rfl ?_
                refine j_get (C := RX11) (T := TX11) (N := 10) X iX11 0 (wX_0 ..) rfl 5 (by decide) k_315 rfl rfl dX11_flies_61 ?_
                refine j_iload_n X dX11_flies_64 rfl rfl ?_
                by_cases n_65_0 : x1 = (0 : Int32)
                · replace hf := (if_pos n_65_0).symm.trans hf
                  refine j_aald4 X 77 (wX_77 ..) (b := h 78) (by rw [n_65_0]; unfold vp_in; decide) (by rw [n_65_0]; rfl) dX11_flies_65 ?_
                  refine j_iload_n X dX11_flies_66 rfl rfl ?_
                  obtain ⟨c34, hf⟩ := oi_in hf
                  refine j_iald X 78 (wX_78 ..) c34 dX11_flies_67 ?_
                  obtain ⟨q35, g_q35, hf⟩ := ob_t hf
                  obtain ⟨μ36, e_μ36, hf⟩ := bd_e hf
                  refine j_callV X [23, 24, 25, 26, 27, 28, 7, 8, 9, 10, 11, 12, 13, 14, 66, 67, 68, 69, 70, 71, 72, 73] 0 (c_X4_flyAt E (fun j => h (List.getD [23, 24, 25, 26, 27, 28, 7, 8, 9, 10, 11, 12, 13, 14, 66, 67, 68, 69, 70, 71, 72, 73] j 0)) (fun j => g (List.getD [0, 1] j 0)) g_q35) (cut_wX_wR_23_24_25_c ..) rfl rfl (ws' := (wX E h g μ36)) (by rw [e_μ36]; exact cut_wX_wR_23_24_25_w ..) (wR_0 ..) rfl k_603 k_604 k_605 k_78 k_606 (⟨rfl, rfl⟩) hdV_X4_flyAt ⟨Nat.le_of_ble_eq_true rfl, Nat.le_of_ble_eq_true rfl⟩ rfl (Nat.le_of_ble_eq_true rfl) rfl dX11_flies_68 ?_
                  refine j_pop X dX11_flies_71 rfl ?_
                  refine j_iinc2 (k := (1 : Int32)) X dX11_flies_72 (by decide) (by decide) rfl ?_
                  refine j_goto (tgt := 29) X dX11_flies_75 (by decide) ?_
                  refine j_keep [true, true, true] rfl ?_
                  exact ih _ _ _ hf
                · replace hf := (if_neg n_65_0).symm.trans hf
                  by_cases n_65_1 : x1 = (1 : Int32)
                  · replace hf := (if_pos n_65_1).symm.trans hf
                    refine j_aald4 X 77 (wX_77 ..) (b := h 79) (by rw [n_65_1]; unfold vp_in; decide) (by rw [n_65_1]; rfl) dX11_flies_65 ?_
                    refine j_iload_n X dX11_flies_66 rfl rfl ?_
                    obtain ⟨c37, hf⟩ := oi_in hf
                    refine j_iald X 79 (wX_79 ..) c37 dX11_flies_67 ?_
                    obtain ⟨q38, g_q38, hf⟩ := ob_t hf
                    obtain ⟨μ39, e_μ39, hf⟩ := bd_e hf
                    refine j_callV X [23, 24, 25, 26, 27, 28, 7, 8, 9, 10, 11, 12, 13, 14, 66, 67, 68, 69, 70, 71, 72, 73] 0 (c_X4_flyAt E (fun j => h (List.getD [23, 24, 25, 26, 27, 28, 7, 8, 9, 10, 11, 12, 13, 14, 66, 67, 68, 69, 70, 71, 72, 73] j 0)) (fun j => g (List.getD [0, 1] j 0)) g_q38) (cut_wX_wR_23_24_25_c ..) rfl rfl (ws' := (wX E h g μ39)) (by rw [e_μ39]; exact cut_wX_wR_23_24_25_w ..) (wR_0 ..) rfl k_603 k_604 k_605 k_78 k_606 (⟨rfl, rfl⟩) hdV_X4_flyAt ⟨Nat.le_of_ble_eq_true rfl, Nat.le_of_ble_eq_true rfl⟩ rfl (Nat.le_of_ble_eq_true rfl) rfl dX11_flies_68 ?_
                    refine j_pop X dX11_flies_71 rfl ?_
                    refine j_iinc2 (k := (1 : Int32)) X dX11_flies_72 (by decide) (by decide) rfl ?_
                    refine j_goto (tgt := 29) X dX11_flies_75 (by decide) ?_
                    refine j_keep [true, true, true] rfl ?_
                    exact ih _ _ _ hf
                  · replace hf := (if_neg n_65_1).symm.trans hf
                    by_cases n_65_2 : x1 = (2 : Int32)
                    · replace hf := (if_pos n_65_2).symm.trans hf
                      refine j_aald4 X 77 (wX_77 ..) (b := h 80) (by rw [n_65_2]; unfold vp_in; decide) (by rw [n_65_2]; rfl) dX11_flies_65 ?_
                      refine j_iload_n X dX11_flies_66 rfl rfl ?_
                      obtain ⟨c40, hf⟩ := oi_in hf
                      refine j_iald X 80 (wX_80 ..) c40 dX11_flies_67 ?_
                      obtain ⟨q41, g_q41, hf⟩ := ob_t hf
                      obtain ⟨μ42, e_μ42, hf⟩ := bd_e hf
                      refine j_callV X [23, 24, 25, 26, 27, 28, 7, 8, 9, 10, 11, 12, 13, 14, 66, 67, 68, 69, 70, 71, 72, 73] 0 (c_X4_flyAt E (fun j => h (List.getD [23, 24, 25, 26, 27, 28, 7, 8, 9, 10, 11, 12, 13, 14, 66, 67, 68, 69, 70, 71, 72, 73] j 0)) (fun j => g (List.getD [0, 1] j 0)) g_q41) (cut_wX_wR_23_24_25_c ..) rfl rfl (ws' := (wX E h g μ42)) (by rw [e_μ42]; exact cut_wX_wR_23_24_25_w ..) (wR_0 ..) rfl k_603 k_604 k_605 k_78 k_606 (⟨rfl, rfl⟩) hdV_X4_flyAt ⟨Nat.le_of_ble_eq_true rfl, Nat.le_of_ble_eq_true rfl⟩ rfl (Nat.le_of_ble_eq_true rfl) rfl dX11_flies_68 ?_
                      refine j_pop X dX11_flies_71 rfl ?_
                      refine j_iinc2 (k := (1 : Int32)) X dX11_flies_72 (by decide) (by decide) rfl ?_
                      refine j_goto (tgt := 29) X dX11_flies_75 (by decide) ?_
                      refine j_keep [true, true, true] rfl ?_
                      exact ih _ _ _ hf
                    · replace hf := (if_neg n_65_2).symm.trans hf
                      by_cases n_65_3 : x1 = (3 : Int32)
                      · replace hf := (if_pos n_65_3).symm.trans hf
                        refine j_aald4 X 77 (wX_77 ..) (b := h 81) (by rw [n_65_3]; unfold vp_in; decide) (by rw [n_65_3]; rfl) dX11_flies_65 ?_
                        refine j_iload_n X dX11_flies_66 rfl rfl ?_
                        obtain ⟨c43, hf⟩ := oi_in hf
                        refine j_iald X 81 (wX_81 ..) c43 dX11_flies_67 ?_
                        obtain ⟨q44, g_q44, hf⟩ := ob_t hf
                        obtain ⟨μ45, e_μ45, hf⟩ := bd_e hf
                        refine j_callV X [23, 24, 25, 26, 27, 28, 7, 8, 9, 10, 11, 12, 13, 14, 66, 67, 68, 69, 70, 71, 72, 73] 0 (c_X4_flyAt E (fun j => h (List.getD [23, 24, 25, 26, 27, 28, 7, 8, 9, 10, 11, 12, 13, 14, 66, 67, 68, 69, 70, 71, 72, 73] j 0)) (fun j => g (List.getD [0, 1] j 0)) g_q44) (cut_wX_wR_23_24_25_c ..) rfl rfl (ws' := (wX E h g μ45)) (by rw [e_μ45]; exact cut_wX_wR_23_24_25_w ..) (wR_0 ..) rfl k_603 k_604 k_605 k_78 k_606 (⟨rfl, rfl⟩) hdV_X4_flyAt ⟨Nat.le_of_ble_eq_true rfl, Nat.le_of_ble_eq_true rfl⟩ rfl (Nat.le_of_ble_eq_true rfl) rfl dX11_flies_68 ?_
                        refine j_pop X dX11_flies_71 rfl ?_
                        refine j_iinc2 (k := (1 : Int32)) X dX11_flies_72 (by decide) (by decide) rfl ?_
                        refine j_goto (tgt := 29) X dX11_flies_75 (by decide) ?_
                        refine j_keep [true, true, true] rfl ?_
                        exact ih _ _ _ hf
                      · replace hf := (if_neg n_65_3).symm.trans hf
                        cases hf
            · replace hf := (if_neg n_44_2).symm.trans hf
              by_cases n_44_3 : x1 = (3 : Int32)
              · replace hf := (if_pos n_44_3).symm.trans hf
                refine j_aald4 X 77 (wX_77 ..) (b := h 81) (by rw [n_44_3]; unfold vp_in; decide) (by rw [n_44_3]; rfl) dX11_flies_44 ?_
                refine j_iload_n X dX11_flies_45 rfl rfl ?_
                obtain ⟨c46, hf⟩ := oi_in hf
                refine j_iald X 81 (wX_81 ..) c46 dX11_flies_46 ?_
                obtain ⟨q47, g_q47, hf⟩ := ob_t hf
                refine j_callS X [] (c_X11_isPost E g_q47) rfl rfl rfl (ws' := (wX E h g μ)) rfl k_500 k_501 k_68 k_502 (⟨rfl, rfl⟩) hdS_X11_isPost ⟨Nat.le_of_ble_eq_true rfl, Nat.le_of_ble_eq_true rfl⟩ rfl (Nat.le_of_ble_eq_true rfl) rfl dX11_flies_47 ?_
                refine j_if_eq (tgt := 78) X dX11_flies_50 (by decide) (fun c_50 => ?_) (fun c_50 => ?_)
                · replace hf := (if_pos c_50).symm.trans hf
                  refine j_iload_n X dX11_flies_78 rfl rfl ?_
                  obtain rfl := Option.some.inj hf
                  exact j_iret X hr hlk rfl dX11_flies_79 hQ
                · replace hf := (if_neg c_50).symm.trans hf
                  refine j_aload_n X dX11_flies_53 rfl rfl ?_
                  refine j_get (C := RX11) (T := TX11) (N := 10) X iX11 0 (wX_0 ..) rfl 0 (by decide) k_310 rfl rfl dX11_flies_54 ?_
                  refine j_get (C := RX5) (T := TX5) (N := 8) X iX5 1 (wX_1 ..) rfl 2 (by decide) k_239 rfl rfl dX11_flies_57 ?_
                  refine j_aload_n X dX11_flies_60 rfl rfl ?_
                  refine j_get (C := RX11) (T := TX11) (N := 10) X iX11 0 (wX_0 ..) rfl 5 (by decide) k_315 rfl rfl dX11_flies_61 ?_
                  refine j_iload_n X dX11_flies_64 rfl rfl ?_
                  by_cases n_65_0 : x1 = (0 : Int32)
                  · replace hf := (if_pos n_65_0).symm.trans hf
                    refine j_aald4 X 77 (wX_77 ..) (b := h 78) (by rw [n_65_0]; unfold vp_in; decide) (by rw [n_65_0]; rfl) dX11_flies_65 ?_
                    refine j_iload_n X dX11_flies_66 rfl rfl ?_
                    obtain ⟨c48, hf⟩ := oi_in hf
                    refine j_iald X 78 (wX_78 ..) c48 dX11_flies_67 ?_
                    obtain ⟨q49, g_q49, hf⟩ := ob_t hf
                    obtain ⟨μ50, e_μ50, hf⟩ := bd_e hf
                    refine j_callV X [23, 24, 25, 26, 27, 28, 7, 8, 9, 10, 11, 12, 13, 14, 66, 67, 68, 69, 70, 71, 72, 73] 0 (c_X4_flyAt E (fun j => h (List.getD [23, 24, 25, 26, 27, 28, 7, 8, 9, 10, 11, 12, 13, 14, 66, 67, 68, 69, 70, 71, 72, 73] j 0)) (fun j => g (List.getD [0, 1] j 0)) g_q49) (cut_wX_wR_23_24_25_c ..) rfl rfl (ws' := (wX E h g μ50)) (by rw [e_μ50]; exact cut_wX_wR_23_24_25_w ..) (wR_0 ..) rfl k_603 k_604 k_605 k_78 k_606 (⟨rfl, rfl⟩) hdV_X4_flyAt ⟨Nat.le_of_ble_eq_true rfl, Nat.le_of_ble_eq_true rfl⟩ rfl (Nat.le_of_ble_eq_true rfl) rfl dX11_flies_68 ?_
                    refine j_pop X dX11_flies_71 rfl ?_
                    refine j_iinc2 (k := (1 : Int32)) X dX11_flies_72 (by decide) (by decide) rfl ?_
                    refine j_goto (tgt := 29) X dX11_flies_75 (by decide) ?_
                    refine j_keep [true, true, true] rfl ?_
                    exact ih _ _ _ hf
                  · replace hf := (if_neg n_65_0).symm.trans hf
                    by_cases n_65_1 : x1 = (1 : Int32)
                    · replace hf := (if_pos n_65_1).symm.trans hf
                      refine j_aald4 X 77 (wX_77 ..) (b := h 79) (by rw [n_65_1]; unfold vp_in; decide) (by rw [n_65_1]; rfl) dX11_flies_65 ?_
                      refine j_iload_n X dX11_flies_66 rfl rfl ?_
                      obtain ⟨c51, hf⟩ := oi_in hf
                      refine j_iald X 79 (wX_79 ..) c51 dX11_flies_67 ?_
                      obtain ⟨q52, g_q52, hf⟩ := ob_t hf
                      obtain ⟨μ53, e_μ53, hf⟩ := bd_e hf
                      refine j_callV X [23, 24, 25, 26, 27, 28, 7, 8, 9, 10, 11, 12, 13, 14, 66, 67, 68, 69, 70, 71, 72, 73] 0 (c_X4_flyAt E (fun j => h (List.getD [23, 24, 25, 26, 27, 28, 7, 8, 9, 10, 11, 12, 13, 14, 66, 67, 68, 69, 70, 71, 72, 73] j 0)) (fun j => g (List.getD [0, 1] j 0)) g_q52) (cut_wX_wR_23_24_25_c ..) rfl rfl (ws' := (wX E h g μ53)) (by rw [e_μ53]; exact cut_wX_wR_23_24_25_w ..) (wR_0 ..) rfl k_603 k_604 k_605 k_78 k_606 (⟨rfl, rfl⟩) hdV_X4_flyAt ⟨Nat.le_of_ble_eq_true rfl, Nat.le_of_ble_eq_true rfl⟩ rfl (Nat.le_of_ble_eq_true rfl) rfl dX11_flies_68 ?_
                      refine j_pop X dX11_flies_71 rfl ?_
                      refine j_iinc2 (k := (1 : Int32)) X dX11_flies_72 (by decide) (by decide) rfl ?_
                      refine j_goto (tgt := 29) X dX11_flies_75 (by decide) ?_
                      refine j_keep [true, true, true] rfl ?_
                      exact ih _ _ _ hf
                    · replace hf := (if_neg n_65_1).symm.trans hf
                      by_cases n_65_2 : x1 = (2 : Int32)
                      · replace hf := (if_pos n_65_2).symm.trans hf
                        refine j_aald4 X 77 (wX_77 ..) (b := h 80) (by rw [n_65_2]; unfold vp_in; decide) (by rw [n_65_2]; rfl) dX11_flies_65 ?_
                        refine j_iload_n X dX11_flies_66 rfl rfl ?_
                        obtain ⟨c54, hf⟩ := oi_in hf
                        refine j_iald X 80 (wX_80 ..) c54 dX11_flies_67 ?_
                        obtain ⟨q55, g_q55, hf⟩ := ob_t hf
                        obtain ⟨μ56, e_μ56, hf⟩ := bd_e hf
                        refine j_callV X [23, 24, 25, 26, 27, 28, 7, 8, 9, 10, 11, 12, 13, 14, 66, 67, 68, 69, 70, 71, 72, 73] 0 (c_X4_flyAt E (fun j => h (List.getD [23, 24, 25, 26, 27, 28, 7, 8, 9, 10, 11, 12, 13, 14, 66, 67, 68, 69, 70, 71, 72, 73] j 0)) (fun j => g (List.getD [0, 1] j 0)) g_q55) (cut_wX_wR_23_24_25_c ..) rfl rfl (ws' := (wX E h g μ56)) (by rw [e_μ56]; exact cut_wX_wR_23_24_25_w ..) (wR_0 ..) rfl k_603 k_604 k_605 k_78 k_606 (⟨rfl, rfl⟩) hdV_X4_flyAt ⟨Nat.le_of_ble_eq_true rfl, Nat.le_of_ble_eq_true rfl⟩ rfl (Nat.le_of_ble_eq_true rfl) rfl dX11_flies_68 ?_
                        refine j_pop X dX11_flies_71 rfl ?_
                        refine j_iinc2 (k := (1 : Int32)) X dX11_flies_72 (by decide) (by decide) rfl ?_
                        refine j_goto (tgt := 29) X dX11_flies_75 (by decide) ?_
                        refine j_keep [true, true, true] rfl ?_
                        exact ih _ _ _ hf
                      · replace hf := (if_neg n_65_2).symm.trans hf
                        by_cases n_65_3 : x1 = (3 : Int32)
                        · replace hf := (if_pos n_65_3).symm.trans hf
                          refine j_aald4 X 77 (wX_77 ..) (b := h 81) (by rw [n_65_3]; unfold vp_in; decide) (by rw [n_65_3]; rfl) dX11_flies_65 ?_
                          refine j_iload_n X dX11_flies_66 rfl rfl ?_
                          obtain ⟨c57, hf⟩ := oi_in hf
                          refine j_iald X 81 (wX_81 ..) c57 dX11_flies_67 ?_
                          obtain ⟨q58, g_q58, hf⟩ := ob_t hf
                          obtain ⟨μ59, e_μ59, hf⟩ := bd_e hf
                          refine j_callV X [23, 24, 25, 26, 27, 28, 7, 8, 9, 10, 11, 12, 13, 14, 66, 67, 68, 69, 70, 71, 72, 73] 0 (c_X4_flyAt E (fun j => h (List.getD [23, 24, 25, 26, 27, 28, 7, 8, 9, 10, 11, 12, 13, 14, 66, 67, 68, 69, 70, 71, 72, 73] j 0)) (fun j => g (List.getD [0, 1] j 0)) g_q58) (cut_wX_wR_23_24_25_c ..) rfl rfl (ws' := (wX E h g μ59)) (by rw [e_μ59]; exact cut_wX_wR_23_24_25_w ..) (wR_0 ..) rfl k_603 k_604 k_605 k_78 k_606 (⟨rfl, rfl⟩) hdV_X4_flyAt ⟨Nat.le_of_ble_eq_true rfl, Nat.le_of_ble_eq_true rfl⟩ rfl (Nat.le_of_ble_eq_true rfl) rfl dX11_flies_68 ?_
                          refine j_pop X dX11_flies_71 rfl ?_
                          refine j_iinc2 (k := (1 : Int32)) X dX11_flies_72 (by decide) (by decide) rfl ?_
                          refine j_goto (tgt := 29) X dX11_flies_75 (by decide) ?_
                          refine j_keep [true, true, true] rfl ?_
                          exact ih _ _ _ hf
                        · replace hf := (if_neg n_65_3).symm.trans hf
                          cases hf
              · replace hf := (if_neg n_44_3).symm.trans hf
                cases hf
  rw [f_X11_flies] at hf
  refine j_iload_n X dX11_flies_0 rfl rfl ?_
  obtain ⟨q1, g_q1, hf⟩ := ob_t hf
  refine j_callS X [] (c_X11_isSheet E g_q1) rfl rfl rfl (ws' := (wX E h g μ)) rfl k_716 k_717 k_68 k_718 (⟨rfl, rfl⟩) hdS_X11_isSheet ⟨Nat.le_of_ble_eq_true rfl, Nat.le_of_ble_eq_true rfl⟩ rfl (Nat.le_of_ble_eq_true rfl) rfl dX11_flies_1 ?_
  refine j_if_ne (tgt := 13) X dX11_flies_4 (by decide) (fun c_4 => ?_) (fun c_4 => ?_)
  · replace hf := (if_neg c_4).symm.trans hf
    refine j_aload_n X dX11_flies_13 rfl rfl ?_
    refine j_iload_n X dX11_flies_14 rfl rfl ?_
    obtain ⟨q2, g_q2, hf⟩ := ob_t hf
    refine j_callV X [0, 1, 2, 3, 4, 5, 6, 7, 8, 9, 10, 11, 12, 13, 14, 15, 16, 17, 18, 19, 20, 21, 22, 23, 24, 25, 26, 27, 28, 29, 30, 31, 32, 33, 34, 35, 36, 37, 38, 39, 40, 41, 42, 43, 44, 45, 46, 47, 48, 49, 50, 51, 52, 53, 54, 55, 56, 57, 58, 59, 60, 61, 62, 63, 64, 65, 66, 67, 68, 69, 70, 71, 72, 73, 74, 75, 76, 77, 78, 79, 80, 81, 82, 83, 84] 0 (c_X11_isMissing E h g g_q2) (cut_wX_wX_c ..) rfl rfl (ws' := (wX E h g q2.1)) (cut_wX_wX_w ..) (wX_0 ..) rfl k_719 k_721 k_21 k_68 k_722 (⟨rfl, rfl⟩) hdV_X11_isMissing ⟨Nat.le_of_ble_eq_true rfl, Nat.le_of_ble_eq_true rfl⟩ rfl (Nat.le_of_ble_eq_true rfl) rfl dX11_flies_15 ?_
    refine j_if_eq (tgt := 27) X dX11_flies_18 (by decide) (fun c_18 => ?_) (fun c_18 => ?_)
    · replace hf := (if_pos c_18).symm.trans hf
      refine j_iconst (v := (0 : Int32)) X dX11_flies_27 (by decide) ?_
      refine j_istore_n2 X dX11_flies_28 rfl (by decide) rfl ?_
      refine j_keep [true, true, true] rfl ?_
      exact lab29 _ _ _ _ hf
    · replace hf := (if_neg c_18).symm.trans hf
      refine j_aload_n X dX11_flies_21 rfl rfl ?_
      refine j_iconst (v := (2 : Int32)) X dX11_flies_22 (by decide) ?_
      obtain ⟨q60, g_q60, hf⟩ := ob_t hf
      refine j_callV X [0, 1, 2, 3, 4, 5, 6, 7, 8, 9, 10, 11, 12, 13, 14, 15, 16, 17, 18, 19, 20, 21, 22, 23, 24, 25, 26, 27, 28, 29, 30, 31, 32, 33, 34, 35, 36, 37, 38, 39, 40, 41, 42, 43, 44, 45, 46, 47, 48, 49, 50, 51, 52, 53, 54, 55, 56, 57, 58, 59, 60, 61, 62, 63, 64, 65, 66, 67, 68, 69, 70, 71, 72, 73, 74, 75, 76, 77, 78, 79, 80, 81, 82, 83, 84] 0 (c_X11_fails E h g g_q60) (cut_wX_wX_c ..) rfl rfl (ws' := (wX E h g q60.1)) (cut_wX_wX_w ..) (wX_0 ..) rfl k_351 k_353 k_0 k_68 k_354 (⟨rfl, rfl⟩) hdV_X11_fails ⟨Nat.le_of_ble_eq_true rfl, Nat.le_of_ble_eq_true rfl⟩ rfl (Nat.le_of_ble_eq_true rfl) rfl dX11_flies_23 ?_
      obtain rfl := Option.some.inj hf
      exact j_iret X hr hlk rfl dX11_flies_26 hQ
  · replace hf := (if_pos c_4).symm.trans hf
    refine j_aload_n X dX11_flies_7 rfl rfl ?_
    refine j_iconst (v := (1 : Int32)) X dX11_flies_8 (by decide) ?_
    obtain ⟨q61, g_q61, hf⟩ := ob_t hf
    refine j_callV X [0, 1, 2, 3, 4, 5, 6, 7, 8, 9, 10, 11, 12, 13, 14, 15, 16, 17, 18, 19, 20, 21, 22, 23, 24, 25, 26, 27, 28, 29, 30, 31, 32, 33, 34, 35, 36, 37, 38, 39, 40, 41, 42, 43, 44, 45, 46, 47, 48, 49, 50, 51, 52, 53, 54, 55, 56, 57, 58, 59, 60, 61, 62, 63, 64, 65, 66, 67, 68, 69, 70, 71, 72, 73, 74, 75, 76, 77, 78, 79, 80, 81, 82, 83, 84] 0 (c_X11_fails E h g g_q61) (cut_wX_wX_c ..) rfl rfl (ws' := (wX E h g q61.1)) (cut_wX_wX_w ..) (wX_0 ..) rfl k_351 k_353 k_0 k_68 k_354 (⟨rfl, rfl⟩) hdV_X11_fails ⟨Nat.le_of_ble_eq_true rfl, Nat.le_of_ble_eq_true rfl⟩ rfl (Nat.le_of_ble_eq_true rfl) rfl dX11_flies_9 ?_
    obtain rfl := Option.some.inj hf
    exact j_iret X hr hlk rfl dX11_flies_12 hQ
def f_X11_judge_L43 : Nat → Mem → Int32 → Int32 → Option (Mem × Int32)
  | 0, _, _, _ => none
  | n + 1, μ, x1, x2 => (if inb x1 4 = true then (if (μ 83 x1.toNatClampNeg) ≤ x2 then some (μ, x2) else (if x1 = (0 : Int32) then (if inb x2 24 = true then (f_X4_howMany (sub [35, 36, 37, 38, 39, 40, 7, 8, 9, 10, 11, 12, 13, 14, 66, 67, 68, 69, 70, 71, 72, 73] μ)).bind fun q7 => (bd (put [35, 36, 37, 38, 39, 40, 7, 8, 9, 10, 11, 12, 13, 14, 66, 67, 68, 69, 70, 71, 72, 73] μ q7.1) fun μ8 => ((if (μ 78 x2.toNatClampNeg) = q7.2 then (f_X4_passMinute (sub [35, 36, 37, 38, 39, 40, 7, 8, 9, 10, 11, 12, 13, 14, 66, 67, 68, 69, 70, 71, 72, 73] μ8)).bind fun q9 => (bd (put [35, 36, 37, 38, 39, 40, 7, 8, 9, 10, 11, 12, 13, 14, 66, 67, 68, 69, 70, 71, 72, 73] μ8 q9.1) fun μ10 => ((f_X11_judge_L43 n) μ10 x1 (x2 + (1 : Int32)))) else some (μ8, x2)))) else none) else (if x1 = (1 : Int32) then (if inb x2 24 = true then (f_X4_howMany (sub [35, 36, 37, 38, 39, 40, 7, 8, 9, 10, 11, 12, 13, 14, 66, 67, 68, 69, 70, 71, 72, 73] μ)).bind fun q12 => (bd (put [35, 36, 37, 38, 39, 40, 7, 8, 9, 10, 11, 12, 13, 14, 66, 67, 68, 69, 70, 71, 72, 73] μ q12.1) fun μ13 => ((if (μ 79 x2.toNatClampNeg) = q12.2 then (f_X4_passMinute (sub [35, 36, 37, 38, 39, 40, 7, 8, 9, 10, 11, 12, 13, 14, 66, 67, 68, 69, 70, 71, 72, 73] μ13)).bind fun q14 => (bd (put [35, 36, 37, 38, 39, 40, 7, 8, 9, 10, 11, 12, 13, 14, 66, 67, 68, 69, 70, 71, 72, 73] μ13 q14.1) fun μ15 => ((f_X11_judge_L43 n) μ15 x1 (x2 + (1 : Int32)))) else some (μ13, x2)))) else none) else (if x1 = (2 : Int32) then (if inb x2 24 = true then (f_X4_howMany (sub [35, 36, 37, 38, 39, 40, 7, 8, 9, 10, 11, 12, 13, 14, 66, 67, 68, 69, 70, 71, 72, 73] μ)).bind fun q17 => (bd (put [35, 36, 37, 38, 39, 40, 7, 8, 9, 10, 11, 12, 13, 14, 66, 67, 68, 69, 70, 71, 72, 73] μ q17.1) fun μ18 => ((if (μ 80 x2.toNatClampNeg) = q17.2 then (f_X4_passMinute (sub [35, 36, 37, 38, 39, 40, 7, 8, 9, 10, 11, 12, 13, 14, 66, 67, 68, 69, 70, 71, 72, 73] μ18)).bind fun q19 => (bd (put [35, 36, 37, 38, 39, 40, 7, 8, 9, 10, 11, 12, 13, 14, 66, 67, 68, 69, 70, 71, 72, 73] μ18 q19.1) fun μ20 => ((f_X11_judge_L43 n) μ20 x1 (x2 + (1 : Int32)))) else some (μ18, x2)))) else none) else (if x1 = (3 : Int32) then (if inb x2 24 = true then (f_X4_howMany (sub [35, 36, 37, 38, 39, 40, 7, 8, 9, 10, 11, 12, 13, 14, 66, 67, 68, 69, 70, 71, 72, 73] μ)).bind fun q22 => (bd (put [35, 36, 37, 38, 39, 40, 7, 8, 9, 10, 11, 12, 13, 14, 66, 67, 68, 69, 70, 71, 72, 73] μ q22.1) fun μ23 => ((if (μ 81 x2.toNatClampNeg) = q22.2 then (f_X4_passMinute (sub [35, 36, 37, 38, 39, 40, 7, 8, 9, 10, 11, 12, 13, 14, 66, 67, 68, 69, 70, 71, 72, 73] μ23)).bind fun q24 => (bd (put [35, 36, 37, 38, 39, 40, 7, 8, 9, 10, 11, 12, 13, 14, 66, 67, 68, 69, 70, 71, 72, 73] μ23 q24.1) fun μ25 => ((f_X11_judge_L43 n) μ25 x1 (x2 + (1 : Int32)))) else some (μ23, x2)))) else none) else none))))) else none)
def f_X11_judge (μ : Mem) (x1 : Int32) : Option (Mem × Int32) := (f_X11_isSheet x1).bind fun q1 => ((if q1 = 0 then (f_X11_fails μ (1 : Int32)).bind fun q27 => (some (q27.1, q27.2)) else (f_X11_isMissing μ x1).bind fun q2 => ((if q2.2 = 0 then (f_X4_copyFrom (sub [35, 36, 37, 38, 39, 40, 23, 24, 25, 26, 27, 28] q2.1)).bind fun q3 => (bd (put [35, 36, 37, 38, 39, 40, 23, 24, 25, 26, 27, 28] q2.1 q3) fun μ4 => (f_X11_judge_L43 fuel0 μ4 x1 (0 : Int32))) else (f_X11_fails q2.1 (2 : Int32)).bind fun q26 => (some (q26.1, q26.2))))))
set_option maxHeartbeats 4000000 in
set_option maxRecDepth 20000 in
theorem c_X11_judge (E : Ev) (h : Nat → Nat) (g : Nat → Option Nat) {μ : Mem} {x1 : Int32} {r : (Mem × Int32)} (hf : f_X11_judge μ x1 = some r) : Ct E yX11_judge cX11_judge 3 (some .int) (rmOf 5 114) (wX E h g μ) (wX E h g r.1) [.ref (h 0), .int x1] (some (.int r.2)) := by
  refine ct_start RX11 1 (by decide) rfl (Nat.le_of_ble_eq_true rfl) ?_
  intro p l e s m args below meth c A Q X hr hlk hQ
  have lab43 : ∀ (n : Nat) (μ : Mem) (x1 : Int32) (x2 : Int32), f_X11_judge_L43 n μ x1 x2 = some r → J p l e (rmOf 5 114) s m args below meth c E A 3 Q (wX E h g μ) [some (.ref (h 0)), some (.int x1), some (.int x2)] 43 [] := by
    intro n
    induction n with
    | zero => intro μ x1 x2 hf; cases (show none = some r from hf)
    | succ n ih =>
      intro μ x1 x2 hf
      rw [f_X11_judge_L43] at hf
      refine j_iload_n X dX11_judge_43 rfl rfl ?_
      refine j_aload_n X dX11_judge_44 rfl rfl ?_
      refine j_get (C := RX11) (T := TX11) (N := 10) X iX11 0 (wX_0 ..) rfl 7 (by decide) k_317 rfl rfl dX11_judge_45 ?_
      refine j_iload_n X dX11_judge_48 rfl rfl ?_
      obtain ⟨c5, hf⟩ := oi_in hf
      refine j_iald X 83 (wX_83 ..) c5 dX11_judge_49 ?_
      refine j_icmp_ge (tgt := 85) X dX11_judge_50 (by decide) (fun c_50 => ?_) (fun c_50 => ?_)
      · replace hf := (if_pos c_50).symm.trans hf
        refine j_iload_n X dX11_judge_85 rfl rfl ?_
        obtain rfl := Option.some.inj hf
        exact j_iret X hr hlk rfl dX11_judge_86 hQ
      · replace hf := (if_neg c_50).symm.trans hf
        refine j_aload_n X dX11_judge_53 rfl rfl ?_
        refine j_get (C := RX11) (T := TX11) (N := 10) X iX11 0 (wX_0 ..) rfl 5 (by decide) k_315 rfl rfl dX11_judge_54 ?_
        refine j_iload_n X dX11_judge_57 rfl rfl ?_
        by_cases n_58_0 : x1 = (0 : Int32)
        · replace hf := (if_pos n_58_0).symm.trans hf
          refine j_aald4 X 77 (wX_77 ..) (b := h 78) (by rw [n_58_0]; unfold vp_in; decide) (by rw [n_58_0]; rfl) dX11_judge_58 ?_
          refine j_iload_n X dX11_judge_59 rfl rfl ?_
          obtain ⟨c6, hf⟩ := oi_in hf
          refine j_iald X 78 (wX_78 ..) c6 dX11_judge_60 ?_
          refine j_aload_n X dX11_judge_61 rfl rfl ?_
          refine j_get (C := RX11) (T := TX11) (N := 10) X iX11 0 (wX_0 ..) rfl 2 (by decide) k_312 rfl rfl dX11_judge_62 ?_
          obtain ⟨q7, g_q7, hf⟩ := ob_t hf
          obtain ⟨μ8, e_μ8, hf⟩ := bd_e hf
          refine j_callV X [35, 36, 37, 38, 39, 40, 7, 8, 9, 10, 11, 12, 13, 14, 66, 67, 68, 69, 70, 71, 72, 73] 0 (c_X4_howMany E (fun j => h (List.getD [35, 36, 37, 38, 39, 40, 7, 8, 9, 10, 11, 12, 13, 14, 66, 67, 68, 69, 70, 71, 72, 73] j 0)) (fun j => g (List.getD [0, 1] j 0)) g_q7) (cut_wX_wR_35_36_37_c ..) rfl rfl (ws' := (wX E h g μ8)) (by rw [e_μ8]; exact cut_wX_wR_35_36_37_w ..) (wR_0 ..) rfl k_649 k_650 k_651 k_78 k_652 (⟨rfl, rfl⟩) hdV_X4_howMany ⟨Nat.le_of_ble_eq_true rfl, Nat.le_of_ble_eq_true rfl⟩ rfl (Nat.le_of_ble_eq_true rfl) rfl dX11_judge_65 ?_
          refine j_icmp_ne (tgt := 85) X dX11_judge_68 (by decide) (fun c_68 => ?_) (fun c_68 => ?_)
          · replace hf := (if_neg c_68).symm.trans hf
            refine j_iload_n X dX11_judge_85 rfl rfl ?_
            obtain rfl := Option.some.inj hf
            exact j_iret X hr hlk rfl dX11_judge_86 hQ
          · replace hf := (if_pos c_68).symm.trans hf
            refine j_aload_n X dX11_judge_71 rfl rfl ?_
            refine j_get (C := RX11) (T := TX11) (N := 10) X iX11 0 (wX_0 ..) rfl 2 (by decide) k_312 rfl rfl dX11_judge_72 ?_
            obtain ⟨q9, g_q9, hf⟩ := ob_t hf
            obtain ⟨μ10, e_μ10, hf⟩ := bd_e hf
            refine j_callV X [35, 36, 37, 38, 39, 40, 7, 8, 9, 10, 11, 12, 13, 14, 66, 67, 68, 69, 70, 71, 72, 73] 0 (c_X4_passMinute E (fun j => h (List.getD [35, 36, 37, 38, 39, 40, 7, 8, 9, 10, 11, 12, 13, 14, 66, 67, 68, 69, 70, 71, 72, 73] j 0)) (fun j => g (List.getD [0, 1] j 0)) g_q9) (cut_wX_wR_35_36_37_c ..) rfl rfl (ws' := (wX E h g μ10)) (by rw [e_μ10]; exact cut_wX_wR_35_36_37_w ..) (wR_0 ..) rfl k_866 k_594 k_595 k_78 k_596 (⟨rfl, rfl⟩) hdV_X4_passMinute ⟨Nat.le_of_ble_eq_true rfl, Nat.le_of_ble_eq_true rfl⟩ rfl (Nat.le_of_ble_eq_true rfl) rfl dX11_judge_75 ?_
            refine j_pop X dX11_judge_78 rfl ?_
            refine j_iinc2 (k := (1 : Int32)) X dX11_judge_79 (by decide) (by decide) rfl ?_
            refine j_goto (tgt := 43) X dX11_judge_82 (by decide) ?_
            refine j_keep [true, true, true] rfl ?_
            exact ih _ _ _ hf
        · replace hf := (if_neg n_58_0).symm.trans hf
          by_cases n_58_1 : x1 = (1 : Int32)
          · replace hf := (if_pos n_58_1).symm.trans hf
            refine j_aald4 X 77 (wX_77 ..) (b := h 79) (by rw [n_58_1]; unfold vp_in; decide) (by rw [n_58_1]; rfl) dX11_judge_58 ?_
            refine j_iload_n X dX11_judge_59 rfl rfl ?_
            obtain ⟨c11, hf⟩ := oi_in hf
            refine j_iald X 79 (wX_79 ..) c11 dX11_judge_60 ?_
            refine j_aload_n X dX11_judge_61 rfl rfl ?_
            refine j_get (C := RX11) (T := TX11) (N := 10) X iX11 0 (wX_0 ..) rfl 2 (by decide) k_312 rfl rfl dX11_judge_62 ?_
            obtain ⟨q12, g_q12, hf⟩ := ob_t hf
            obtain ⟨μ13, e_μ13, hf⟩ := bd_e hf
            refine j_callV X [35, 36, 37, 38, 39, 40, 7, 8, 9, 10, 11, 12, 13, 14, 66, 67, 68, 69, 70, 71, 72, 73] 0 (c_X4_howMany E (fun j => h (List.getD [35, 36, 37, 38, 39, 40, 7, 8, 9, 10, 11, 12, 13, 14, 66, 67, 68, 69, 70, 71, 72, 73] j 0)) (fun j => g (List.getD [0, 1] j 0)) g_q12) (cut_wX_wR_35_36_37_c ..) rfl rfl (ws' := (wX E h g μ13)) (by rw [e_μ13]; exact cut_wX_wR_35_36_37_w ..) (wR_0 ..) rfl k_649 k_650 k_651 k_78 k_652 (⟨rfl, rfl⟩) hdV_X4_howMany ⟨Nat.le_of_ble_eq_true rfl, Nat.le_of_ble_eq_true rfl⟩ rfl (Nat.le_of_ble_eq_true rfl) rfl dX11_judge_65 ?_
            refine j_icmp_ne (tgt := 85) X dX11_judge_68 (by decide) (fun c_68 => ?_) (fun c_68 => ?_)
            · replace hf := (if_neg c_68).symm.trans hf
              refine j_iload_n X dX11_judge_85 rfl rfl ?_
              obtain rfl := Option.some.inj hf
              exact j_iret X hr hlk rfl dX11_judge_86 hQ
            · replace hf := (if_pos c_68).symm.trans hf
              refine j_aload_n X dX11_judge_71 rfl rfl ?_
              refine j_get (C := RX11) (T := TX11) (N := 10) X iX11 0 (wX_0 ..) rfl 2 (by decide) k_312 rfl rfl dX11_judge_72 ?_
              obtain ⟨q14, g_q14, hf⟩ := ob_t hf
              obtain ⟨μ15, e_μ15, hf⟩ := bd_e hf
              refine j_callV X [35, 36, 37, 38, 39, 40, 7, 8, 9, 10, 11, 12, 13, 14, 66, 67, 68, 69, 70, 71, 72, 73] 0 (c_X4_passMinute E (fun j => h (List.getD [35, 36, 37, 38, 39, 40, 7, 8, 9, 10, 11, 12, 13, 14, 66, 67, 68, 69, 70, 71, 72, 73] j 0)) (fun j => g (List.getD [0, 1] j 0)) g_q14) (cut_wX_wR_35_36_37_c ..) rfl rfl (ws' := (wX E h g μ15)) (by rw [e_μ15]; exact cut_wX_wR_35_36_37_w ..) (wR_0 ..) rfl k_866 k_594 k_595 k_78 k_596 (⟨rfl, rfl⟩) hdV_X4_passMinute ⟨Nat.le_of_ble_eq_true rfl, Nat.le_of_ble_eq_true rfl⟩ rfl (Nat.le_of_ble_eq_true rfl) rfl dX11_judge_75 ?_
              refine j_pop X dX11_judge_78 rfl ?_
              refine j_iinc2 (k := (1 : Int32)) X dX11_judge_79 (by decide) (by decide) rfl ?_
              refine j_goto (tgt := 43) X dX11_judge_82 (by decide) ?_
              refine j_keep [true, true, true] rfl ?_
              exact ih _ _ _ hf
          · replace hf := (if_neg n_58_1).symm.trans hf
            by_cases n_58_2 : x1 = (2 : Int32)
            · replace hf := (if_pos n_58_2).symm.trans hf
              refine j_aald4 X 77 (wX_77 ..) (b := h 80) (by rw [n_58_2]; unfold vp_in; decide) (by rw [n_58_2]; rfl) dX11_judge_58 ?_
              refine j_iload_n X dX11_judge_59 rfl rfl ?_
              obtain ⟨c16, hf⟩ := oi_in hf
              refine j_iald X 80 (wX_80 ..) c16 dX11_judge_60 ?_
              refine j_aload_n X dX11_judge_61 rfl rfl ?_
              refine j_get (C := RX11) (T := TX11) (N := 10) X iX11 0 (wX_0 ..) rfl 2 (by decide) k_312 rfl rfl dX11_judge_62 ?_
              obtain ⟨q17, g_q17, hf⟩ := ob_t hf
              obtain ⟨μ18, e_μ18, hf⟩ := bd_e hf
              refine j_callV X [35, 36, 37, 38, 39, 40, 7, 8, 9, 10, 11, 12, 13, 14, 66, 67, 68, 69, 70, 71, 72, 73] 0 (c_X4_howMany E (fun j => h (List.getD [35, 36, 37, 38, 39, 40, 7, 8, 9, 10, 11, 12, 13, 14, 66, 67, 68, 69, 70, 71, 72, 73] j 0)) (fun j => g (List.getD [0, 1] j 0)) g_q17) (cut_wX_wR_35_36_37_c ..) rfl rfl (ws' := (wX E h g μ18)) (by rw [e_μ18]; exact cut_wX_wR_35_36_37_w ..) (wR_0 ..) rfl k_649 k_650 k_651 k_78 k_652 (⟨rfl, rfl⟩) hdV_X4_howMany ⟨Nat.le_of_ble_eq_true rfl, Nat.le_of_ble_eq_true rfl⟩ rfl (Nat.le_of_ble_eq_true rfl) rfl dX11_judge_65 ?_
              refine j_icmp_ne (tgt := 85) X dX11_judge_68 (by decide) (fun c_68 => ?_) (fun c_68 => ?_)
              · replace hf := (if_neg c_68).symm.trans hf
                refine j_iload_n X dX11_judge_85 rfl rfl ?_
                obtain rfl := Option.some.inj hf
                exact j_iret X hr hlk rfl dX11_judge_86 hQ
              · replace hf := (if_pos c_68).symm.trans hf
                refine j_aload_n X dX11_judge_71 rfl rfl ?_
                refine j_get (C := RX11) (T := TX11) (N := 10) X iX11 0 (wX_0 ..) rfl 2 (by decide) k_312 rfl rfl dX11_judge_72 ?_
                obtain ⟨q19, g_q19, hf⟩ := ob_t hf
                obtain ⟨μ20, e_μ20, hf⟩ := bd_e hf
                refine j_callV X [35, 36, 37, 38, 39, 40, 7, 8, 9, 10, 11, 12, 13, 14, 66, 67, 68, 69, 70, 71, 72, 73] 0 (c_X4_passMinute E (fun j => h (List.getD [35, 36, 37, 38, 39, 40, 7, 8, 9, 10, 11, 12, 13, 14, 66, 67, 68, 69, 70, 71, 72, 73] j 0)) (fun j => g (List.getD [0, 1] j 0)) g_q19) (cut_wX_wR_35_36_37_c ..) rfl rfl (ws' := (wX E h g μ20)) (by rw [e_μ20]; exact cut_wX_wR_35_36_37_w ..) (wR_0 ..) rfl k_866 k_594 k_595 k_78 k_596 (⟨rfl, rfl⟩) hdV_X4_passMinute ⟨Nat.le_of_ble_eq_true rfl, Nat.le_of_ble_eq_true rfl⟩ rfl (Nat.le_of_ble_eq_true rfl) rfl dX11_judge_75 ?_
                refine j_pop X dX11_judge_78 rfl ?_
                refine j_iinc2 (k := (1 : Int32)) X dX11_judge_79 (by decide) (by decide) rfl ?_
                refine j_goto (tgt := 43) X dX11_judge_82 (by decide) ?_
                refine j_keep [true, true, true] rfl ?_
                exact ih _ _ _ hf
            · replace hf := (if_neg n_58_2).symm.trans hf
              by_cases n_58_3 : x1 = (3 : Int32)
              · replace hf := (if_pos n_58_3).symm.trans hf
                refine j_aald4 X 77 (wX_77 ..) (b := h 81) (by rw [n_58_3]; unfold vp_in; decide) (by rw [n_58_3]; rfl) dX11_judge_58 ?_
                refine j_iload_n X dX11_judge_59 rfl rfl ?_
                obtain ⟨c21, hf⟩ := oi_in hf
                refine j_iald X 81 (wX_81 ..) c21 dX11_judge_60 ?_
                refine j_aload_n X dX11_judge_61 rfl rfl ?_
                refine j_get (C := RX11) (T := TX11) (N := 10) X iX11 0 (wX_0 ..) rfl 2 (by decide) k_312 rfl rfl dX11_judge_62 ?_
                obtain ⟨q22, g_q22, hf⟩ := ob_t hf
                obtain ⟨μ23, e_μ23, hf⟩ := bd_e hf
                refine j_callV X [35, 36, 37, 38, 39, 40, 7, 8, 9, 10, 11, 12, 13, 14, 66, 67, 68, 69, 70, 71, 72, 73] 0 (c_X4_howMany E (fun j => h (List.getD [35, 36, 37, 38, 39, 40, 7, 8, 9, 10, 11, 12, 13, 14, 66, 67, 68, 69, 70, 71, 72, 73] j 0)) (fun j => g (List.getD [0, 1] j 0)) g_q22) (cut_wX_wR_35_36_37_c ..) rfl rfl (ws' := (wX E h g μ23)) (by rw [e_μ23]; exact cut_wX_wR_35_36_37_w ..) (wR_0 ..) rfl k_649 k_650 k_651 k_78 k_652 (⟨rfl, rfl⟩) hdV_X4_howMany ⟨Nat.le_of_ble_eq_true rfl, Nat.le_of_ble_eq_true rfl⟩ rfl (Nat.le_of_ble_eq_true rfl) rfl dX11_judge_65 ?_
                refine j_icmp_ne (tgt := 85) X dX11_judge_68 (by decide) (fun c_68 => ?_) (fun c_68 => ?_)
                · replace hf := (if_neg c_68).symm.trans hf
                  refine j_iload_n X dX11_judge_85 rfl rfl ?_
                  obtain rfl := Option.some.inj hf
                  exact j_iret X hr hlk rfl dX11_judge_86 hQ
                · replace hf := (if_pos c_68).symm.trans hf
                  refine j_aload_n X dX11_judge_71 rfl rfl ?_
                  refine j_get (C := RX11) (T := TX11) (N := 10) X iX11 0 (wX_0 ..) rfl 2 (by decide) k_312 rfl rfl dX11_judge_72 ?_
                  obtain ⟨q24, g_q24, hf⟩ := ob_t hf
                  obtain ⟨μ25, e_μ25, hf⟩ := bd_e hf
                  refine j_callV X [35, 36, 37, 38, 39, 40, 7, 8, 9, 10, 11, 12, 13, 14, 66, 67, 68, 69, 70, 71, 72, 73] 0 (c_X4_passMinute E (fun j => h (List.getD [35, 36, 37, 38, 39, 40, 7, 8, 9, 10, 11, 12, 13, 14, 66, 67, 68, 69, 70, 71, 72, 73] j 0)) (fun j => g (List.getD [0, 1] j 0)) g_q24) (cut_wX_wR_35_36_37_c ..) rfl rfl (ws' := (wX E h g μ25)) (by rw [e_μ25]; exact cut_wX_wR_35_36_37_w ..) (wR_0 ..) rfl k_866 k_594 k_595 k_78 k_596 (⟨rfl, rfl⟩) hdV_X4_passMinute ⟨Nat.le_of_ble_eq_true rfl, Nat.le_of_ble_eq_true rfl⟩ rfl (Nat.le_of_ble_eq_true rfl) rfl dX11_judge_75 ?_
                  refine j_pop X dX11_judge_78 rfl ?_
                  refine j_iinc2 (k := (1 : Int32)) X dX11_judge_79 (by decide) (by decide) rfl ?_
                  refine j_goto (tgt := 43) X dX11_judge_82 (by decide) ?_
                  refine j_keep [true, true, true] rfl ?_
                  exact ih _ _ _ hf
              · replace hf := (if_neg n_58_3).symm.trans hf
                cases hf
  rw [f_X11_judge] at hf
  refine j_iload_n X dX11_judge_0 rfl rfl ?_
  obtain ⟨q1, g_q1, hf⟩ := ob_t hf
  refine j_callS X [] (c_X11_isSheet E g_q1) rfl rfl rfl (ws' := (wX E h g μ)) rfl k_716 k_717 k_68 k_718 (⟨rfl, rfl⟩) hdS_X11_isSheet ⟨Nat.le_of_ble_eq_true rfl, Nat.le_of_ble_eq_true rfl⟩ rfl (Nat.le_of_ble_eq_true rfl) rfl dX11_judge_1 ?_
  refine j_if_ne (tgt := 13) X dX11_judge_4 (by decide) (fun c_4 => ?_) (fun c_4 => ?_)
  · replace hf := (if_neg c_4).symm.trans hf
    refine j_aload_n X dX11_judge_13 rfl rfl ?_
    refine j_iload_n X dX11_judge_14 rfl rfl ?_
    obtain ⟨q2, g_q2, hf⟩ := ob_t hf
    refine j_callV X [0, 1, 2, 3, 4, 5, 6, 7, 8, 9, 10, 11, 12, 13, 14, 15, 16, 17, 18, 19, 20, 21, 22, 23, 24, 25, 26, 27, 28, 29, 30, 31, 32, 33, 34, 35, 36, 37, 38, 39, 40, 41, 42, 43, 44, 45, 46, 47, 48, 49, 50, 51, 52, 53, 54, 55, 56, 57, 58, 59, 60, 61, 62, 63, 64, 65, 66, 67, 68, 69, 70, 71, 72, 73, 74, 75, 76, 77, 78, 79, 80, 81, 82, 83, 84] 0 (c_X11_isMissing E h g g_q2) (cut_wX_wX_c ..) rfl rfl (ws' := (wX E h g q2.1)) (cut_wX_wX_w ..) (wX_0 ..) rfl k_719 k_721 k_21 k_68 k_722 (⟨rfl, rfl⟩) hdV_X11_isMissing ⟨Nat.le_of_ble_eq_true rfl, Nat.le_of_ble_eq_true rfl⟩ rfl (Nat.le_of_ble_eq_true rfl) rfl dX11_judge_15 ?_
    refine j_if_eq (tgt := 27) X dX11_judge_18 (by decide) (fun c_18 => ?_) (fun c_18 => ?_)
    · replace hf := (if_pos c_18).symm.trans hf
      refine j_aload_n X dX11_judge_27 rfl rfl ?_
      refine j_get (C := RX11) (T := TX11) (N := 10) X iX11 0 (wX_0 ..) rfl 2 (by decide) k_312 rfl rfl dX11_judge_28 ?_
      refine j_aload_n X dX11_judge_31 rfl rfl ?_
      refine j_get (C := RX11) (T := TX11) (N := 10) X iX11 0 (wX_0 ..) rfl 0 (by decide) k_310 rfl rfl dX11_judge_32 ?_
      refine j_get (C := RX5) (T := TX5) (N := 8) X iX5 1 (wX_1 ..) rfl 2 (by decide) k_239 rfl rfl dX11_judge_35 ?_
      obtain ⟨q3, g_q3, hf⟩ := ob_t hf
      obtain ⟨μ4, e_μ4, hf⟩ := bd_e hf
      refine j_callV X [35, 36, 37, 38, 39, 40, 23, 24, 25, 26, 27, 28] 0 (c_X4_copyFrom E (fun j => h (List.getD [35, 36, 37, 38, 39, 40, 23, 24, 25, 26, 27, 28, 7, 11, 66, 7, 11, 66] j 0)) (fun j => g (List.getD [] j 0)) g_q3) (cut_wX_wRC_35_36_37_c ..) rfl rfl (ws' := (wX E h g μ4)) (by rw [e_μ4]; exact cut_wX_wRC_35_36_37_w ..) (wRC_0 ..) rfl k_638 k_639 k_640 k_78 k_641 (⟨rfl, rfl⟩) hdV_X4_copyFrom ⟨Nat.le_of_ble_eq_true rfl, Nat.le_of_ble_eq_true rfl⟩ rfl (Nat.le_of_ble_eq_true rfl) rfl dX11_judge_38 ?_
      refine j_iconst (v := (0 : Int32)) X dX11_judge_41 (by decide) ?_
      refine j_istore_n2 X dX11_judge_42 rfl (by decide) rfl ?_
      refine j_keep [true, true, true] rfl ?_
      exact lab43 _ _ _ _ hf
    · replace hf := (if_neg c_18).symm.trans hf
      refine j_aload_n X dX11_judge_21 rfl rfl ?_
      refine j_iconst (v := (2 : Int32)) X dX11_judge_22 (by decide) ?_
      obtain ⟨q26, g_q26, hf⟩ := ob_t hf
      refine j_callV X [0, 1, 2, 3, 4, 5, 6, 7, 8, 9, 10, 11, 12, 13, 14, 15, 16, 17, 18, 19, 20, 21, 22, 23, 24, 25, 26, 27, 28, 29, 30, 31, 32, 33, 34, 35, 36, 37, 38, 39, 40, 41, 42, 43, 44, 45, 46, 47, 48, 49, 50, 51, 52, 53, 54, 55, 56, 57, 58, 59, 60, 61, 62, 63, 64, 65, 66, 67, 68, 69, 70, 71, 72, 73, 74, 75, 76, 77, 78, 79, 80, 81, 82, 83, 84] 0 (c_X11_fails E h g g_q26) (cut_wX_wX_c ..) rfl rfl (ws' := (wX E h g q26.1)) (cut_wX_wX_w ..) (wX_0 ..) rfl k_351 k_353 k_0 k_68 k_354 (⟨rfl, rfl⟩) hdV_X11_fails ⟨Nat.le_of_ble_eq_true rfl, Nat.le_of_ble_eq_true rfl⟩ rfl (Nat.le_of_ble_eq_true rfl) rfl dX11_judge_23 ?_
      obtain rfl := Option.some.inj hf
      exact j_iret X hr hlk rfl dX11_judge_26 hQ
  · replace hf := (if_pos c_4).symm.trans hf
    refine j_aload_n X dX11_judge_7 rfl rfl ?_
    refine j_iconst (v := (1 : Int32)) X dX11_judge_8 (by decide) ?_
    obtain ⟨q27, g_q27, hf⟩ := ob_t hf
    refine j_callV X [0, 1, 2, 3, 4, 5, 6, 7, 8, 9, 10, 11, 12, 13, 14, 15, 16, 17, 18, 19, 20, 21, 22, 23, 24, 25, 26, 27, 28, 29, 30, 31, 32, 33, 34, 35, 36, 37, 38, 39, 40, 41, 42, 43, 44, 45, 46, 47, 48, 49, 50, 51, 52, 53, 54, 55, 56, 57, 58, 59, 60, 61, 62, 63, 64, 65, 66, 67, 68, 69, 70, 71, 72, 73, 74, 75, 76, 77, 78, 79, 80, 81, 82, 83, 84] 0 (c_X11_fails E h g g_q27) (cut_wX_wX_c ..) rfl rfl (ws' := (wX E h g q27.1)) (cut_wX_wX_w ..) (wX_0 ..) rfl k_351 k_353 k_0 k_68 k_354 (⟨rfl, rfl⟩) hdV_X11_fails ⟨Nat.le_of_ble_eq_true rfl, Nat.le_of_ble_eq_true rfl⟩ rfl (Nat.le_of_ble_eq_true rfl) rfl dX11_judge_9 ?_
    obtain rfl := Option.some.inj hf
    exact j_iret X hr hlk rfl dX11_judge_12 hQ
theorem cut_wX_wSC_4_15_17_c (E : Ev) (h : Nat → Nat) (g : Nat → Option Nat) (μ : Mem) : ([4, 15, 17, 19, 21, 29, 30, 31, 32, 33, 34, 5, 6, 1, 7, 9, 11, 13, 23, 24, 25, 26, 27, 28, 2, 3] : List Nat).map (fun i => (wX E h g μ)[i]?) = (wSC E (fun j => h (List.getD [4, 15, 17, 19, 21, 29, 30, 31, 32, 33, 34, 5, 6, 1, 7, 9, 11, 13, 23, 24, 25, 26, 27, 28, 2, 3, 16, 18, 20, 22, 8, 10, 12, 14, 66] j 0)) (fun j => g (List.getD [2, 3, 0, 1] j 0)) (sub [4, 15, 17, 19, 21, 29, 30, 31, 32, 33, 34, 5, 6, 1, 7, 9, 11, 13, 23, 24, 25, 26, 27, 28, 2, 3] μ)).map some := rfl
theorem cut_wX_wSC_4_15_17_w (E : Ev) (h : Nat → Nat) (g : Nat → Option Nat) (μ : Mem) (ν : Mem) : putW (wX E h g μ) [4, 15, 17, 19, 21, 29, 30, 31, 32, 33, 34, 5, 6, 1, 7, 9, 11, 13, 23, 24, 25, 26, 27, 28, 2, 3] (wSC E (fun j => h (List.getD [4, 15, 17, 19, 21, 29, 30, 31, 32, 33, 34, 5, 6, 1, 7, 9, 11, 13, 23, 24, 25, 26, 27, 28, 2, 3, 16, 18, 20, 22, 8, 10, 12, 14, 66] j 0)) (fun j => g (List.getD [2, 3, 0, 1] j 0)) ν) = wX E h g (put [4, 15, 17, 19, 21, 29, 30, 31, 32, 33, 34, 5, 6, 1, 7, 9, 11, 13, 23, 24, 25, 26, 27, 28, 2, 3] μ ν) := putW_A (by decide +kernel) rfl rfl
def f_X11_image (μ : Mem) : Option (Mem × Int32) := (f_X5_copyFrom (sub [4, 15, 17, 19, 21, 29, 30, 31, 32, 33, 34, 5, 6, 1, 7, 9, 11, 13, 23, 24, 25, 26, 27, 28, 2, 3] μ)).bind fun q1 => (bd (put [4, 15, 17, 19, 21, 29, 30, 31, 32, 33, 34, 5, 6, 1, 7, 9, 11, 13, 23, 24, 25, 26, 27, 28, 2, 3] μ q1) fun μ2 => (bd (upA μ2 0 (upd (μ2 0) 9 ((μ2 0 9) + (1 : Int32)))) fun μ3 => (some (μ3, (μ3 0 9)))))
set_option maxHeartbeats 4000000 in
set_option maxRecDepth 20000 in
theorem c_X11_image (E : Ev) (h : Nat → Nat) (g : Nat → Option Nat) {μ : Mem} {r : (Mem × Int32)} (hf : f_X11_image μ = some r) : Ct E yX11_image cX11_image 1 (some .int) (rmOf 3 85) (wX E h g μ) (wX E h g r.1) [.ref (h 0)] (some (.int r.2)) := by
  refine ct_start RX11 0 (by decide) rfl (Nat.le_of_ble_eq_true rfl) ?_
  intro p l e s m args below meth c A Q X hr hlk hQ
  rw [f_X11_image] at hf
  refine j_aload_n X dX11_image_0 rfl rfl ?_
  refine j_get (C := RX11) (T := TX11) (N := 10) X iX11 0 (wX_0 ..) rfl 1 (by decide) k_311 rfl rfl dX11_image_1 ?_
  refine j_aload_n X dX11_image_4 rfl rfl ?_
  refine j_get (C := RX11) (T := TX11) (N := 10) X iX11 0 (wX_0 ..) rfl 0 (by decide) k_310 rfl rfl dX11_image_5 ?_
  obtain ⟨q1, g_q1, hf⟩ := ob_t hf
  obtain ⟨μ2, e_μ2, hf⟩ := bd_e hf
  refine j_callV X [4, 15, 17, 19, 21, 29, 30, 31, 32, 33, 34, 5, 6, 1, 7, 9, 11, 13, 23, 24, 25, 26, 27, 28, 2, 3] 0 (c_X5_copyFrom E (fun j => h (List.getD [4, 15, 17, 19, 21, 29, 30, 31, 32, 33, 34, 5, 6, 1, 7, 9, 11, 13, 23, 24, 25, 26, 27, 28, 2, 3, 16, 18, 20, 22, 8, 10, 12, 14, 66] j 0)) (fun j => g (List.getD [2, 3, 0, 1] j 0)) g_q1) (cut_wX_wSC_4_15_17_c ..) rfl rfl (ws' := (wX E h g μ2)) (by rw [e_μ2]; exact cut_wX_wSC_4_15_17_w ..) (wSC_0 ..) rfl k_871 k_872 k_873 k_76 k_874 (⟨rfl, rfl⟩) hdV_X5_copyFrom ⟨Nat.le_of_ble_eq_true rfl, Nat.le_of_ble_eq_true rfl⟩ rfl (Nat.le_of_ble_eq_true rfl) rfl dX11_image_8 ?_
  refine j_aload_n X dX11_image_11 rfl rfl ?_
  refine j_dup X dX11_image_12 rfl ?_
  refine j_get (C := RX11) (T := TX11) (N := 10) X iX11 0 (wX_0 ..) rfl 9 (by decide) k_319 rfl rfl dX11_image_13 ?_
  refine j_iconst (v := (1 : Int32)) X dX11_image_16 (by decide) ?_
  refine j_iadd X dX11_image_17 ?_
  obtain ⟨μ3, e_μ3, hf⟩ := bd_e hf
  refine j_put (C := RX11) (T := TX11) (N := 10) X iX11 0 (wX_0 ..) rfl 9 (by decide) k_319 rfl tyX11 tyX11_ok nmX11 rfl (ty := .int) (by decide +kernel) rfl rfl (Nat.le_of_ble_eq_true rfl) dX11_image_18 (ws' := (wX E h g μ3)) (by rw [e_μ3]; exact wX_f0_9 ..) ?_
  refine j_aload_n X dX11_image_21 rfl rfl ?_
  refine j_get (C := RX11) (T := TX11) (N := 10) X iX11 0 (wX_0 ..) rfl 9 (by decide) k_319 rfl rfl dX11_image_22 ?_
  obtain rfl := Option.some.inj hf
  exact j_iret X hr hlk rfl dX11_image_25 hQ
theorem cut_wX_wSC_1_7_9_c (E : Ev) (h : Nat → Nat) (g : Nat → Option Nat) (μ : Mem) : ([1, 7, 9, 11, 13, 23, 24, 25, 26, 27, 28, 2, 3, 4, 15, 17, 19, 21, 29, 30, 31, 32, 33, 34, 5, 6] : List Nat).map (fun i => (wX E h g μ)[i]?) = (wSC E (fun j => h (List.getD [1, 7, 9, 11, 13, 23, 24, 25, 26, 27, 28, 2, 3, 4, 15, 17, 19, 21, 29, 30, 31, 32, 33, 34, 5, 6, 8, 10, 12, 14, 16, 18, 20, 22, 66] j 0)) (fun j => g (List.getD [0, 1, 2, 3] j 0)) (sub [1, 7, 9, 11, 13, 23, 24, 25, 26, 27, 28, 2, 3, 4, 15, 17, 19, 21, 29, 30, 31, 32, 33, 34, 5, 6] μ)).map some := rfl
theorem cut_wX_wSC_1_7_9_w (E : Ev) (h : Nat → Nat) (g : Nat → Option Nat) (μ : Mem) (ν : Mem) : putW (wX E h g μ) [1, 7, 9, 11, 13, 23, 24, 25, 26, 27, 28, 2, 3, 4, 15, 17, 19, 21, 29, 30, 31, 32, 33, 34, 5, 6] (wSC E (fun j => h (List.getD [1, 7, 9, 11, 13, 23, 24, 25, 26, 27, 28, 2, 3, 4, 15, 17, 19, 21, 29, 30, 31, 32, 33, 34, 5, 6, 8, 10, 12, 14, 16, 18, 20, 22, 66] j 0)) (fun j => g (List.getD [0, 1, 2, 3] j 0)) ν) = wX E h g (put [1, 7, 9, 11, 13, 23, 24, 25, 26, 27, 28, 2, 3, 4, 15, 17, 19, 21, 29, 30, 31, 32, 33, 34, 5, 6] μ ν) := putW_A (by decide +kernel) rfl rfl
def f_X11_restore (μ : Mem) : Option (Mem × Int32) := (if (μ 0 9) = 0 then (f_X11_fails μ (2 : Int32)).bind fun q3 => (some (q3.1, q3.2)) else (f_X5_copyFrom (sub [1, 7, 9, 11, 13, 23, 24, 25, 26, 27, 28, 2, 3, 4, 15, 17, 19, 21, 29, 30, 31, 32, 33, 34, 5, 6] μ)).bind fun q1 => (bd (put [1, 7, 9, 11, 13, 23, 24, 25, 26, 27, 28, 2, 3, 4, 15, 17, 19, 21, 29, 30, 31, 32, 33, 34, 5, 6] μ q1) fun μ2 => (some (μ2, (μ2 23 6)))))
set_option maxHeartbeats 4000000 in
set_option maxRecDepth 20000 in
theorem c_X11_restore (E : Ev) (h : Nat → Nat) (g : Nat → Option Nat) {μ : Mem} {r : (Mem × Int32)} (hf : f_X11_restore μ = some r) : Ct E yX11_restore cX11_restore 1 (some .int) (rmOf 3 85) (wX E h g μ) (wX E h g r.1) [.ref (h 0)] (some (.int r.2)) := by
  refine ct_start RX11 0 (by decide) rfl (Nat.le_of_ble_eq_true rfl) ?_
  intro p l e s m args below meth c A Q X hr hlk hQ
  rw [f_X11_restore] at hf
  refine j_aload_n X dX11_restore_0 rfl rfl ?_
  refine j_get (C := RX11) (T := TX11) (N := 10) X iX11 0 (wX_0 ..) rfl 9 (by decide) k_319 rfl rfl dX11_restore_1 ?_
  refine j_if_ne (tgt := 13) X dX11_restore_4 (by decide) (fun c_4 => ?_) (fun c_4 => ?_)
  · replace hf := (if_neg c_4).symm.trans hf
    refine j_aload_n X dX11_restore_13 rfl rfl ?_
    refine j_get (C := RX11) (T := TX11) (N := 10) X iX11 0 (wX_0 ..) rfl 0 (by decide) k_310 rfl rfl dX11_restore_14 ?_
    refine j_aload_n X dX11_restore_17 rfl rfl ?_
    refine j_get (C := RX11) (T := TX11) (N := 10) X iX11 0 (wX_0 ..) rfl 1 (by decide) k_311 rfl rfl dX11_restore_18 ?_
    obtain ⟨q1, g_q1, hf⟩ := ob_t hf
    obtain ⟨μ2, e_μ2, hf⟩ := bd_e hf
    refine j_callV X [1, 7, 9, 11, 13, 23, 24, 25, 26, 27, 28, 2, 3, 4, 15, 17, 19, 21, 29, 30, 31, 32, 33, 34, 5, 6] 0 (c_X5_copyFrom E (fun j => h (List.getD [1, 7, 9, 11, 13, 23, 24, 25, 26, 27, 28, 2, 3, 4, 15, 17, 19, 21, 29, 30, 31, 32, 33, 34, 5, 6, 8, 10, 12, 14, 16, 18, 20, 22, 66] j 0)) (fun j => g (List.getD [0, 1, 2, 3] j 0)) g_q1) (cut_wX_wSC_1_7_9_c ..) rfl rfl (ws' := (wX E h g μ2)) (by rw [e_μ2]; exact cut_wX_wSC_1_7_9_w ..) (wSC_0 ..) rfl k_871 k_872 k_873 k_76 k_874 (⟨rfl, rfl⟩) hdV_X5_copyFrom ⟨Nat.le_of_ble_eq_true rfl, Nat.le_of_ble_eq_true rfl⟩ rfl (Nat.le_of_ble_eq_true rfl) rfl dX11_restore_21 ?_
    refine j_aload_n X dX11_restore_24 rfl rfl ?_
    refine j_get (C := RX11) (T := TX11) (N := 10) X iX11 0 (wX_0 ..) rfl 0 (by decide) k_310 rfl rfl dX11_restore_25 ?_
    refine j_get (C := RX5) (T := TX5) (N := 8) X iX5 1 (wX_1 ..) rfl 2 (by decide) k_239 rfl rfl dX11_restore_28 ?_
    refine j_get (C := RX4) (T := TX4) (N := 10) X iX4 23 (wX_23 ..) rfl 6 (by decide) k_208 rfl rfl dX11_restore_31 ?_
    obtain rfl := Option.some.inj hf
    exact j_iret X hr hlk rfl dX11_restore_34 hQ
  · replace hf := (if_pos c_4).symm.trans hf
    refine j_aload_n X dX11_restore_7 rfl rfl ?_
    refine j_iconst (v := (2 : Int32)) X dX11_restore_8 (by decide) ?_
    obtain ⟨q3, g_q3, hf⟩ := ob_t hf
    refine j_callV X [0, 1, 2, 3, 4, 5, 6, 7, 8, 9, 10, 11, 12, 13, 14, 15, 16, 17, 18, 19, 20, 21, 22, 23, 24, 25, 26, 27, 28, 29, 30, 31, 32, 33, 34, 35, 36, 37, 38, 39, 40, 41, 42, 43, 44, 45, 46, 47, 48, 49, 50, 51, 52, 53, 54, 55, 56, 57, 58, 59, 60, 61, 62, 63, 64, 65, 66, 67, 68, 69, 70, 71, 72, 73, 74, 75, 76, 77, 78, 79, 80, 81, 82, 83, 84] 0 (c_X11_fails E h g g_q3) (cut_wX_wX_c ..) rfl rfl (ws' := (wX E h g q3.1)) (cut_wX_wX_w ..) (wX_0 ..) rfl k_351 k_353 k_0 k_68 k_354 (⟨rfl, rfl⟩) hdV_X11_fails ⟨Nat.le_of_ble_eq_true rfl, Nat.le_of_ble_eq_true rfl⟩ rfl (Nat.le_of_ble_eq_true rfl) rfl dX11_restore_9 ?_
    obtain rfl := Option.some.inj hf
    exact j_iret X hr hlk rfl dX11_restore_12 hQ
def f_X11_tell (μ : Mem) (x1 : Int32) : Option (Mem × Int32) := (if (μ 1 6) < (24 : Int32) then (if inb (μ 1 6) 24 = true then bd (upA μ 3 (upd (μ 3) (μ 1 6).toNatClampNeg x1)) fun μ2 => (bd (upA μ2 1 (upd (μ2 1) 6 ((μ2 1 6) + (1 : Int32)))) fun μ3 => (some (μ3, (μ3 1 6)))) else none) else (f_X11_fails μ (4 : Int32)).bind fun q4 => (some (q4.1, q4.2)))
set_option maxHeartbeats 4000000 in
set_option maxRecDepth 20000 in
theorem c_X11_tell (E : Ev) (h : Nat → Nat) (g : Nat → Option Nat) {μ : Mem} {x1 : Int32} {r : (Mem × Int32)} (hf : f_X11_tell μ x1 = some r) : Ct E yX11_tell cX11_tell 2 (some .int) (rmOf 1 21) (wX E h g μ) (wX E h g r.1) [.ref (h 0), .int x1] (some (.int r.2)) := by
  refine ct_start RX11 0 (by decide) rfl (Nat.le_of_ble_eq_true rfl) ?_
  intro p l e s m args below meth c A Q X hr hlk hQ
  rw [f_X11_tell] at hf
  refine j_aload_n X dX11_tell_0 rfl rfl ?_
  refine j_get (C := RX11) (T := TX11) (N := 10) X iX11 0 (wX_0 ..) rfl 0 (by decide) k_310 rfl rfl dX11_tell_1 ?_
  refine j_get (C := RX5) (T := TX5) (N := 8) X iX5 1 (wX_1 ..) rfl 6 (by decide) k_247 rfl rfl dX11_tell_4 ?_
  refine j_bipush (v := (24 : Int32)) X dX11_tell_7 (by decide) ?_
  refine j_icmp_lt (tgt := 18) X dX11_tell_9 (by decide) (fun c_9 => ?_) (fun c_9 => ?_)
  · replace hf := (if_pos c_9).symm.trans hf
    refine j_aload_n X dX11_tell_18 rfl rfl ?_
    refine j_get (C := RX11) (T := TX11) (N := 10) X iX11 0 (wX_0 ..) rfl 0 (by decide) k_310 rfl rfl dX11_tell_19 ?_
    refine j_get (C := RX5) (T := TX5) (N := 8) X iX5 1 (wX_1 ..) rfl 4 (by decide) k_243 rfl rfl dX11_tell_22 ?_
    refine j_aload_n X dX11_tell_25 rfl rfl ?_
    refine j_get (C := RX11) (T := TX11) (N := 10) X iX11 0 (wX_0 ..) rfl 0 (by decide) k_310 rfl rfl dX11_tell_26 ?_
    refine j_get (C := RX5) (T := TX5) (N := 8) X iX5 1 (wX_1 ..) rfl 6 (by decide) k_247 rfl rfl dX11_tell_29 ?_
    refine j_iload_n X dX11_tell_32 rfl rfl ?_
    obtain ⟨c1, hf⟩ := oi_in hf
    obtain ⟨μ2, e_μ2, hf⟩ := bd_e hf
    refine j_iast X 3 (wX_3 ..) c1 dX11_tell_33 (ws' := (wX E h g μ2)) (by rw [e_μ2]; exact wX_s3 ..) ?_
    refine j_aload_n X dX11_tell_34 rfl rfl ?_
    refine j_get (C := RX11) (T := TX11) (N := 10) X iX11 0 (wX_0 ..) rfl 0 (by decide) k_310 rfl rfl dX11_tell_35 ?_
    refine j_dup X dX11_tell_38 rfl ?_
    refine j_get (C := RX5) (T := TX5) (N := 8) X iX5 1 (wX_1 ..) rfl 6 (by decide) k_247 rfl rfl dX11_tell_39 ?_
    refine j_iconst (v := (1 : Int32)) X dX11_tell_42 (by decide) ?_
    refine j_iadd X dX11_tell_43 ?_
    obtain ⟨μ3, e_μ3, hf⟩ := bd_e hf
    refine j_put (C := RX5) (T := TX5) (N := 8) X iX5 1 (wX_1 ..) rfl 6 (by decide) k_247 rfl tyX5 tyX5_ok nmX5 rfl (ty := .int) (by decide +kernel) rfl rfl (Nat.le_of_ble_eq_true rfl) dX11_tell_44 (ws' := (wX E h g μ3)) (by rw [e_μ3]; exact wX_f1_6 ..) ?_
    refine j_aload_n X dX11_tell_47 rfl rfl ?_
    refine j_get (C := RX11) (T := TX11) (N := 10) X iX11 0 (wX_0 ..) rfl 0 (by decide) k_310 rfl rfl dX11_tell_48 ?_
    refine j_get (C := RX5) (T := TX5) (N := 8) X iX5 1 (wX_1 ..) rfl 6 (by decide) k_247 rfl rfl dX11_tell_51 ?_
    obtain rfl := Option.some.inj hf
    exact j_iret X hr hlk rfl dX11_tell_54 hQ
  · replace hf := (if_neg c_9).symm.trans hf
    refine j_aload_n X dX11_tell_12 rfl rfl ?_
    refine j_iconst (v := (4 : Int32)) X dX11_tell_13 (by decide) ?_
    obtain ⟨q4, g_q4, hf⟩ := ob_t hf
    refine j_callV X [0, 1, 2, 3, 4, 5, 6, 7, 8, 9, 10, 11, 12, 13, 14, 15, 16, 17, 18, 19, 20, 21, 22, 23, 24, 25, 26, 27, 28, 29, 30, 31, 32, 33, 34, 35, 36, 37, 38, 39, 40, 41, 42, 43, 44, 45, 46, 47, 48, 49, 50, 51, 52, 53, 54, 55, 56, 57, 58, 59, 60, 61, 62, 63, 64, 65, 66, 67, 68, 69, 70, 71, 72, 73, 74, 75, 76, 77, 78, 79, 80, 81, 82, 83, 84] 0 (c_X11_fails E h g g_q4) (cut_wX_wX_c ..) rfl rfl (ws' := (wX E h g q4.1)) (cut_wX_wX_w ..) (wX_0 ..) rfl k_351 k_353 k_0 k_68 k_354 (⟨rfl, rfl⟩) hdV_X11_fails ⟨Nat.le_of_ble_eq_true rfl, Nat.le_of_ble_eq_true rfl⟩ rfl (Nat.le_of_ble_eq_true rfl) rfl dX11_tell_14 ?_
    obtain rfl := Option.some.inj hf
    exact j_iret X hr hlk rfl dX11_tell_17 hQ
def f_X11_check_L25 : Nat → Mem → Int32 → Int32 → Option (Mem × Int32)
  | 0, _, _, _ => none
  | n + 1, μ, x1, x2 => (if x1 ≤ x2 then some (μ, (0 : Int32)) else (if (9 : Int32) ≤ x2 then some (μ, ((1 : Int32) + x2)) else (if inb x2 24 = true then (if inb x2 9 = true then (if (μ 3 x2.toNatClampNeg) = (μ 40 x2.toNatClampNeg) then (f_X11_check_L25 n) μ x1 (x2 + (1 : Int32)) else some (μ, ((1 : Int32) + x2))) else none) else none)))
def f_X11_check (μ : Mem) : Option (Mem × Int32) := bd (μ 1 6) fun y1 => (bd (upA μ 1 (upd (μ 1) 6 (0 : Int32))) fun μ2 => ((f_X11_lookAhead μ2 (200 : Int32)).bind fun q3 => (f_X11_check_L25 fuel0 q3 y1 (0 : Int32))))
set_option maxHeartbeats 4000000 in
set_option maxRecDepth 20000 in
theorem c_X11_check (E : Ev) (h : Nat → Nat) (g : Nat → Option Nat) {μ : Mem} {r : (Mem × Int32)} (hf : f_X11_check μ = some r) : Ct E yX11_check cX11_check 3 (some .int) (rmOf 7 158) (wX E h g μ) (wX E h g r.1) [.ref (h 0)] (some (.int r.2)) := by
  refine ct_start RX11 2 (by decide) rfl (Nat.le_of_ble_eq_true rfl) ?_
  intro p l e s m args below meth c A Q X hr hlk hQ
  have lab25 : ∀ (n : Nat) (μ : Mem) (x1 : Int32) (x2 : Int32), f_X11_check_L25 n μ x1 x2 = some r → J p l e (rmOf 7 158) s m args below meth c E A 3 Q (wX E h g μ) [some (.ref (h 0)), some (.int x1), some (.int x2)] 25 [] := by
    intro n
    induction n with
    | zero => intro μ x1 x2 hf; cases (show none = some r from hf)
    | succ n ih =>
      intro μ x1 x2 hf
      rw [f_X11_check_L25] at hf
      refine j_iload_n X dX11_check_25 rfl rfl ?_
      refine j_iload_n X dX11_check_26 rfl rfl ?_
      refine j_icmp_ge (tgt := 67) X dX11_check_27 (by decide) (fun c_27 => ?_) (fun c_27 => ?_)
      · replace hf := (if_pos c_27).symm.trans hf
        refine j_iconst (v := (0 : Int32)) X dX11_check_67 (by decide) ?_
        obtain rfl := Option.some.inj hf
        exact j_iret X hr hlk rfl dX11_check_68 hQ
      · replace hf := (if_neg c_27).symm.trans hf
        refine j_iload_n X dX11_check_30 rfl rfl ?_
        refine j_bipush (v := (9 : Int32)) X dX11_check_31 (by decide) ?_
        refine j_icmp_ge (tgt := 57) X dX11_check_33 (by decide) (fun c_33 => ?_) (fun c_33 => ?_)
        · replace hf := (if_pos c_33).symm.trans hf
          refine j_iconst (v := (1 : Int32)) X dX11_check_57 (by decide) ?_
          refine j_iload_n X dX11_check_58 rfl rfl ?_
          refine j_iadd X dX11_check_59 ?_
          obtain rfl := Option.some.inj hf
          exact j_iret X hr hlk rfl dX11_check_60 hQ
        · replace hf := (if_neg c_33).symm.trans hf
          refine j_aload_n X dX11_check_36 rfl rfl ?_
          refine j_get (C := RX11) (T := TX11) (N := 10) X iX11 0 (wX_0 ..) rfl 0 (by decide) k_310 rfl rfl dX11_check_37 ?_
          refine j_get (C := RX5) (T := TX5) (N := 8) X iX5 1 (wX_1 ..) rfl 4 (by decide) k_243 rfl rfl dX11_check_40 ?_
          refine j_iload_n X dX11_check_43 rfl rfl ?_
          obtain ⟨c4, hf⟩ := oi_in hf
          refine j_iald X 3 (wX_3 ..) c4 dX11_check_44 ?_
          refine j_aload_n X dX11_check_45 rfl rfl ?_
          refine j_get (C := RX11) (T := TX11) (N := 10) X iX11 0 (wX_0 ..) rfl 2 (by decide) k_312 rfl rfl dX11_check_46 ?_
          refine j_get (C := RX4) (T := TX4) (N := 10) X iX4 35 (wX_35 ..) rfl 4 (by decide) k_202 rfl rfl dX11_check_49 ?_
          refine j_iload_n X dX11_check_52 rfl rfl ?_
          obtain ⟨c5, hf⟩ := oi_in hf
          refine j_iald X 40 (wX_40 ..) c5 dX11_check_53 ?_
          refine j_icmp_eq (tgt := 61) X dX11_check_54 (by decide) (fun c_54 => ?_) (fun c_54 => ?_)
          · replace hf := (if_pos c_54).symm.trans hf
            refine j_iinc2 (k := (1 : Int32)) X dX11_check_61 (by decide) (by decide) rfl ?_
            refine j_goto (tgt := 25) X dX11_check_64 (by decide) ?_
            refine j_keep [true, true, true] rfl ?_
            exact ih _ _ _ hf
          · replace hf := (if_neg c_54).symm.trans hf
            refine j_iconst (v := (1 : Int32)) X dX11_check_57 (by decide) ?_
            refine j_iload_n X dX11_check_58 rfl rfl ?_
            refine j_iadd X dX11_check_59 ?_
            obtain rfl := Option.some.inj hf
            exact j_iret X hr hlk rfl dX11_check_60 hQ
  rw [f_X11_check] at hf
  refine j_aload_n X dX11_check_0 rfl rfl ?_
  refine j_get (C := RX11) (T := TX11) (N := 10) X iX11 0 (wX_0 ..) rfl 0 (by decide) k_310 rfl rfl dX11_check_1 ?_
  refine j_get (C := RX5) (T := TX5) (N := 8) X iX5 1 (wX_1 ..) rfl 6 (by decide) k_247 rfl rfl dX11_check_4 ?_
  obtain ⟨y1, e_y1, hf⟩ := bd_e hf
  refine j_top e_y1 ?_
  refine j_istore_n1 X dX11_check_7 rfl (by decide) rfl ?_
  refine j_aload_n X dX11_check_8 rfl rfl ?_
  refine j_get (C := RX11) (T := TX11) (N := 10) X iX11 0 (wX_0 ..) rfl 0 (by decide) k_310 rfl rfl dX11_check_9 ?_
  refine j_iconst (v := (0 : Int32)) X dX11_check_12 (by decide) ?_
  obtain ⟨μ2, e_μ2, hf⟩ := bd_e hf
  refine j_put (C := RX5) (T := TX5) (N := 8) X iX5 1 (wX_1 ..) rfl 6 (by decide) k_247 rfl tyX5 tyX5_ok nmX5 rfl (ty := .int) (by decide +kernel) rfl rfl (Nat.le_of_ble_eq_true rfl) dX11_check_13 (ws' := (wX E h g μ2)) (by rw [e_μ2]; exact wX_f1_6 ..) ?_
  refine j_aload_n X dX11_check_16 rfl rfl ?_
  refine j_sipush (v := (200 : Int32)) X dX11_check_17 (by decide) ?_
  obtain ⟨q3, g_q3, hf⟩ := ob_t hf
  refine j_callV X [0, 1, 2, 3, 4, 5, 6, 7, 8, 9, 10, 11, 12, 13, 14, 15, 16, 17, 18, 19, 20, 21, 22, 23, 24, 25, 26, 27, 28, 29, 30, 31, 32, 33, 34, 35, 36, 37, 38, 39, 40, 41, 42, 43, 44, 45, 46, 47, 48, 49, 50, 51, 52, 53, 54, 55, 56, 57, 58, 59, 60, 61, 62, 63, 64, 65, 66, 67, 68, 69, 70, 71, 72, 73, 74, 75, 76, 77, 78, 79, 80, 81, 82, 83, 84] 0 (c_X11_lookAhead E h g g_q3) (cut_wX_wX_c ..) rfl rfl (ws' := (wX E h g q3)) (cut_wX_wX_w ..) (wX_0 ..) rfl k_634 k_636 k_17 k_68 k_637 (⟨rfl, rfl⟩) hdV_X11_lookAhead ⟨Nat.le_of_ble_eq_true rfl, Nat.le_of_ble_eq_true rfl⟩ rfl (Nat.le_of_ble_eq_true rfl) rfl dX11_check_20 ?_
  refine j_iconst (v := (0 : Int32)) X dX11_check_23 (by decide) ?_
  refine j_istore_n2 X dX11_check_24 rfl (by decide) rfl ?_
  refine j_keep [true, true, true] rfl ?_
  exact lab25 _ _ _ _ hf
def f_X11_count (μ : Mem) (x1 : Int32) : Option (Mem × Int32) := (if x1 = (0 : Int32) then some (μ, (μ 23 6)) else (if x1 = (1 : Int32) then some (μ, (μ 23 5)) else (if x1 = (2 : Int32) then (f_X4_howMany (sub [23, 24, 25, 26, 27, 28, 7, 8, 9, 10, 11, 12, 13, 14, 66, 67, 68, 69, 70, 71, 72, 73] μ)).bind fun q1 => (bd (put [23, 24, 25, 26, 27, 28, 7, 8, 9, 10, 11, 12, 13, 14, 66, 67, 68, 69, 70, 71, 72, 73] μ q1.1) fun μ2 => (some (μ2, q1.2))) else (if x1 = (3 : Int32) then (f_X4_allPatience (sub [23, 24, 25, 26, 27, 28, 7, 8, 9, 10, 11, 12, 13, 14, 66, 67, 68, 69, 70, 71, 72, 73] μ)).bind fun q3 => (bd (put [23, 24, 25, 26, 27, 28, 7, 8, 9, 10, 11, 12, 13, 14, 66, 67, 68, 69, 70, 71, 72, 73] μ q3.1) fun μ4 => (some (μ4, q3.2))) else (if x1 = (4 : Int32) then some (μ, (μ 1 5)) else (if x1 = (5 : Int32) then some (μ, (μ 1 6)) else (if x1 = (6 : Int32) then some (μ, (μ 74 3)) else (if x1 = (7 : Int32) then some (μ, (μ 1 7)) else (f_X11_fails μ (1 : Int32)).bind fun q5 => (some (q5.1, q5.2))))))))))
set_option maxHeartbeats 4000000 in
set_option maxRecDepth 20000 in
theorem c_X11_count (E : Ev) (h : Nat → Nat) (g : Nat → Option Nat) {μ : Mem} {x1 : Int32} {r : (Mem × Int32)} (hf : f_X11_count μ x1 = some r) : Ct E yX11_count cX11_count 2 (some .int) (rmOf 3 63) (wX E h g μ) (wX E h g r.1) [.ref (h 0), .int x1] (some (.int r.2)) := by
  refine ct_start RX11 0 (by decide) rfl (Nat.le_of_ble_eq_true rfl) ?_
  intro p l e s m args below meth c A Q X hr hlk hQ
  rw [f_X11_count] at hf
  refine j_iload_n X dX11_count_0 rfl rfl ?_
  by_cases n_1_0 : x1 = (0 : Int32)
  · replace hf := (if_pos n_1_0).symm.trans hf
    refine j_tsI (k := (0 : Int32)) (tgt := 48) X n_1_0 dX11_count_1 (by decide) (by decide) rfl (by decide) ?_
    refine j_aload_n X dX11_count_48 rfl rfl ?_
    refine j_get (C := RX11) (T := TX11) (N := 10) X iX11 0 (wX_0 ..) rfl 0 (by decide) k_310 rfl rfl dX11_count_49 ?_
    refine j_get (C := RX5) (T := TX5) (N := 8) X iX5 1 (wX_1 ..) rfl 2 (by decide) k_239 rfl rfl dX11_count_52 ?_
    refine j_get (C := RX4) (T := TX4) (N := 10) X iX4 23 (wX_23 ..) rfl 6 (by decide) k_208 rfl rfl dX11_count_55 ?_
    obtain rfl := Option.some.inj hf
    exact j_iret X hr hlk rfl dX11_count_58 hQ
  · replace hf := (if_neg n_1_0).symm.trans hf
    by_cases n_1_1 : x1 = (1 : Int32)
    · replace hf := (if_pos n_1_1).symm.trans hf
      refine j_tsI (k := (1 : Int32)) (tgt := 59) X n_1_1 dX11_count_1 (by decide) (by decide) rfl (by decide) ?_
      refine j_aload_n X dX11_count_59 rfl rfl ?_
      refine j_get (C := RX11) (T := TX11) (N := 10) X iX11 0 (wX_0 ..) rfl 0 (by decide) k_310 rfl rfl dX11_count_60 ?_
      refine j_get (C := RX5) (T := TX5) (N := 8) X iX5 1 (wX_1 ..) rfl 2 (by decide) k_239 rfl rfl dX11_count_63 ?_
      refine j_get (C := RX4) (T := TX4) (N := 10) X iX4 23 (wX_23 ..) rfl 5 (by decide) k_206 rfl rfl dX11_count_66 ?_
      obtain rfl := Option.some.inj hf
      exact j_iret X hr hlk rfl dX11_count_69 hQ
    · replace hf := (if_neg n_1_1).symm.trans hf
      by_cases n_1_2 : x1 = (2 : Int32)
      · replace hf := (if_pos n_1_2).symm.trans hf
        refine j_tsI (k := (2 : Int32)) (tgt := 70) X n_1_2 dX11_count_1 (by decide) (by decide) rfl (by decide) ?_
        refine j_aload_n X dX11_count_70 rfl rfl ?_
        refine j_get (C := RX11) (T := TX11) (N := 10) X iX11 0 (wX_0 ..) rfl 0 (by decide) k_310 rfl rfl dX11_count_71 ?_
        refine j_get (C := RX5) (T := TX5) (N := 8) X iX5 1 (wX_1 ..) rfl 2 (by decide) k_239 rfl rfl dX11_count_74 ?_
        obtain ⟨q1, g_q1, hf⟩ := ob_t hf
        obtain ⟨μ2, e_μ2, hf⟩ := bd_e hf
        refine j_callV X [23, 24, 25, 26, 27, 28, 7, 8, 9, 10, 11, 12, 13, 14, 66, 67, 68, 69, 70, 71, 72, 73] 0 (c_X4_howMany E (fun j => h (List.getD [23, 24, 25, 26, 27, 28, 7, 8, 9, 10, 11, 12, 13, 14, 66, 67, 68, 69, 70, 71, 72, 73] j 0)) (fun j => g (List.getD [0, 1] j 0)) g_q1) (cut_wX_wR_23_24_25_c ..) rfl rfl (ws' := (wX E h g μ2)) (by rw [e_μ2]; exact cut_wX_wR_23_24_25_w ..) (wR_0 ..) rfl k_649 k_650 k_651 k_78 k_652 (⟨rfl, rfl⟩) hdV_X4_howMany ⟨Nat.le_of_ble_eq_true rfl, Nat.le_of_ble_eq_true rfl⟩ rfl (Nat.le_of_ble_eq_true rfl) rfl dX11_count_77 ?_
        obtain rfl := Option.some.inj hf
        exact j_iret X hr hlk rfl dX11_count_80 hQ
      · replace hf := (if_neg n_1_2).symm.trans hf
        by_cases n_1_3 : x1 = (3 : Int32)
        · replace hf := (if_pos n_1_3).symm.trans hf
          refine j_tsI (k := (3 : Int32)) (tgt := 81) X n_1_3 dX11_count_1 (by decide) (by decide) rfl (by decide) ?_
          refine j_aload_n X dX11_count_81 rfl rfl ?_
          refine j_get (C := RX11) (T := TX11) (N := 10) X iX11 0 (wX_0 ..) rfl 0 (by decide) k_310 rfl rfl dX11_count_82 ?_
          refine j_get (C := RX5) (T := TX5) (N := 8) X iX5 1 (wX_1 ..) rfl 2 (by decide) k_239 rfl rfl dX11_count_85 ?_
          obtain ⟨q3, g_q3, hf⟩ := ob_t hf
          obtain ⟨μ4, e_μ4, hf⟩ := bd_e hf
          refine j_callV X [23, 24, 25, 26, 27, 28, 7, 8, 9, 10, 11, 12, 13, 14, 66, 67, 68, 69, 70, 71, 72, 73] 0 (c_X4_allPatience E (fun j => h (List.getD [23, 24, 25, 26, 27, 28, 7, 8, 9, 10, 11, 12, 13, 14, 66, 67, 68, 69, 70, 71, 72, 73] j 0)) (fun j => g (List.getD [0, 1] j 0)) g_q3) (cut_wX_wR_23_24_25_c ..) rfl rfl (ws' := (wX E h g μ4)) (by rw [e_μ4]; exact cut_wX_wR_23_24_25_w ..) (wR_0 ..) rfl k_898 k_899 k_900 k_78 k_901 (⟨rfl, rfl⟩) hdV_X4_allPatience ⟨Nat.le_of_ble_eq_true rfl, Nat.le_of_ble_eq_true rfl⟩ rfl (Nat.le_of_ble_eq_true rfl) rfl dX11_count_88 ?_
          obtain rfl := Option.some.inj hf
          exact j_iret X hr hlk rfl dX11_count_91 hQ
        · replace hf := (if_neg n_1_3).symm.trans hf
          by_cases n_1_4 : x1 = (4 : Int32)
          · replace hf := (if_pos n_1_4).symm.trans hf
            refine j_tsI (k := (4 : Int32)) (tgt := 92) X n_1_4 dX11_count_1 (by decide) (by decide) rfl (by decide) ?_
            refine j_aload_n X dX11_count_92 rfl rfl ?_
            refine j_get (C := RX11) (T := TX11) (N := 10) X iX11 0 (wX_0 ..) rfl 0 (by decide) k_310 rfl rfl dX11_count_93 ?_
            refine j_get (C := RX5) (T := TX5) (N := 8) X iX5 1 (wX_1 ..) rfl 5 (by decide) k_245 rfl rfl dX11_count_96 ?_
            obtain rfl := Option.some.inj hf
            exact j_iret X hr hlk rfl dX11_count_99 hQ
          · replace hf := (if_neg n_1_4).symm.trans hf
            by_cases n_1_5 : x1 = (5 : Int32)
            · replace hf := (if_pos n_1_5).symm.trans hf
              refine j_tsI (k := (5 : Int32)) (tgt := 100) X n_1_5 dX11_count_1 (by decide) (by decide) rfl (by decide) ?_
              refine j_aload_n X dX11_count_100 rfl rfl ?_
              refine j_get (C := RX11) (T := TX11) (N := 10) X iX11 0 (wX_0 ..) rfl 0 (by decide) k_310 rfl rfl dX11_count_101 ?_
              refine j_get (C := RX5) (T := TX5) (N := 8) X iX5 1 (wX_1 ..) rfl 6 (by decide) k_247 rfl rfl dX11_count_104 ?_
              obtain rfl := Option.some.inj hf
              exact j_iret X hr hlk rfl dX11_count_107 hQ
            · replace hf := (if_neg n_1_5).symm.trans hf
              by_cases n_1_6 : x1 = (6 : Int32)
              · replace hf := (if_pos n_1_6).symm.trans hf
                refine j_tsI (k := (6 : Int32)) (tgt := 108) X n_1_6 dX11_count_1 (by decide) (by decide) rfl (by decide) ?_
                refine j_aload_n X dX11_count_108 rfl rfl ?_
                refine j_get (C := RX11) (T := TX11) (N := 10) X iX11 0 (wX_0 ..) rfl 4 (by decide) k_314 rfl rfl dX11_count_109 ?_
                refine j_get (C := RX6) (T := TX6) (N := 7) X iX6 74 (wX_74 ..) rfl 3 (by decide) k_288 rfl rfl dX11_count_112 ?_
                obtain rfl := Option.some.inj hf
                exact j_iret X hr hlk rfl dX11_count_115 hQ
              · replace hf := (if_neg n_1_6).symm.trans hf
                by_cases n_1_7 : x1 = (7 : Int32)
                · replace hf := (if_pos n_1_7).symm.trans hf
                  refine j_tsI (k := (7 : Int32)) (tgt := 116) X n_1_7 dX11_count_1 (by decide) (by decide) rfl (by decide) ?_
                  refine j_aload_n X dX11_count_116 rfl rfl ?_
                  refine j_get (C := RX11) (T := TX11) (N := 10) X iX11 0 (wX_0 ..) rfl 0 (by decide) k_310 rfl rfl dX11_count_117 ?_
                  refine j_get (C := RX5) (T := TX5) (N := 8) X iX5 1 (wX_1 ..) rfl 7 (by decide) k_249 rfl rfl dX11_count_120 ?_
                  obtain rfl := Option.some.inj hf
                  exact j_iret X hr hlk rfl dX11_count_123 hQ
                · replace hf := (if_neg n_1_7).symm.trans hf
                  refine j_tsD (tgt := 124) X [0, 1, 2, 3, 4, 5, 6, 7] (List.forall_mem_cons.mpr ⟨lv_neT n_1_0 (a := 0) rfl, List.forall_mem_cons.mpr ⟨lv_neT n_1_1 (a := 1) rfl, List.forall_mem_cons.mpr ⟨lv_neT n_1_2 (a := 2) rfl, List.forall_mem_cons.mpr ⟨lv_neT n_1_3 (a := 3) rfl, List.forall_mem_cons.mpr ⟨lv_neT n_1_4 (a := 4) rfl, List.forall_mem_cons.mpr ⟨lv_neT n_1_5 (a := 5) rfl, List.forall_mem_cons.mpr ⟨lv_neT n_1_6 (a := 6) rfl, List.forall_mem_cons.mpr ⟨lv_neT n_1_7 (a := 7) rfl, fun _ h => by cases h⟩⟩⟩⟩⟩⟩⟩⟩) (by decide) (by decide) dX11_count_1 (by decide) ?_
                  refine j_aload_n X dX11_count_124 rfl rfl ?_
                  refine j_iconst (v := (1 : Int32)) X dX11_count_125 (by decide) ?_
                  obtain ⟨q5, g_q5, hf⟩ := ob_t hf
                  refine j_callV X [0, 1, 2, 3, 4, 5, 6, 7, 8, 9, 10, 11, 12, 13, 14, 15, 16, 17, 18, 19, 20, 21, 22, 23, 24, 25, 26, 27, 28, 29, 30, 31, 32, 33, 34, 35, 36, 37, 38, 39, 40, 41, 42, 43, 44, 45, 46, 47, 48, 49, 50, 51, 52, 53, 54, 55, 56, 57, 58, 59, 60, 61, 62, 63, 64, 65, 66, 67, 68, 69, 70, 71, 72, 73, 74, 75, 76, 77, 78, 79, 80, 81, 82, 83, 84] 0 (c_X11_fails E h g g_q5) (cut_wX_wX_c ..) rfl rfl (ws' := (wX E h g q5.1)) (cut_wX_wX_w ..) (wX_0 ..) rfl k_351 k_353 k_0 k_68 k_354 (⟨rfl, rfl⟩) hdV_X11_fails ⟨Nat.le_of_ble_eq_true rfl, Nat.le_of_ble_eq_true rfl⟩ rfl (Nat.le_of_ble_eq_true rfl) rfl dX11_count_126 ?_
                  obtain rfl := Option.some.inj hf
                  exact j_iret X hr hlk rfl dX11_count_129 hQ
def f_X11_told (μ : Mem) (x1 : Int32) : Option (Mem × Int32) := (f_X11_within x1 (1 : Int32) (6 : Int32)).bind fun q1 => ((if q1 = 0 then (f_X11_fails μ (1 : Int32)).bind fun q3 => (some (q3.1, q3.2)) else (if inb x1 7 = true then some (μ, (μ 84 x1.toNatClampNeg)) else none)))
set_option maxHeartbeats 4000000 in
set_option maxRecDepth 20000 in
theorem c_X11_told (E : Ev) (h : Nat → Nat) (g : Nat → Option Nat) {μ : Mem} {x1 : Int32} {r : (Mem × Int32)} (hf : f_X11_told μ x1 = some r) : Ct E yX11_told cX11_told 2 (some .int) (rmOf 1 22) (wX E h g μ) (wX E h g r.1) [.ref (h 0), .int x1] (some (.int r.2)) := by
  refine ct_start RX11 0 (by decide) rfl (Nat.le_of_ble_eq_true rfl) ?_
  intro p l e s m args below meth c A Q X hr hlk hQ
  rw [f_X11_told] at hf
  refine j_iload_n X dX11_told_0 rfl rfl ?_
  refine j_iconst (v := (1 : Int32)) X dX11_told_1 (by decide) ?_
  refine j_bipush (v := (6 : Int32)) X dX11_told_2 (by decide) ?_
  obtain ⟨q1, g_q1, hf⟩ := ob_t hf
  refine j_callS X [] (c_X11_within E g_q1) rfl rfl rfl (ws' := (wX E h g μ)) rfl k_348 k_349 k_68 k_350 (⟨rfl, rfl⟩) hdS_X11_within ⟨Nat.le_of_ble_eq_true rfl, Nat.le_of_ble_eq_true rfl⟩ rfl (Nat.le_of_ble_eq_true rfl) rfl dX11_told_4 ?_
  refine j_if_ne (tgt := 16) X dX11_told_7 (by decide) (fun c_7 => ?_) (fun c_7 => ?_)
  · replace hf := (if_neg c_7).symm.trans hf
    refine j_aload_n X dX11_told_16 rfl rfl ?_
    refine j_get (C := RX11) (T := TX11) (N := 10) X iX11 0 (wX_0 ..) rfl 8 (by decide) k_318 rfl rfl dX11_told_17 ?_
    refine j_iload_n X dX11_told_20 rfl rfl ?_
    obtain ⟨c2, hf⟩ := oi_in hf
    refine j_iald X 84 (wX_84 ..) c2 dX11_told_21 ?_
    obtain rfl := Option.some.inj hf
    exact j_iret X hr hlk rfl dX11_told_22 hQ
  · replace hf := (if_pos c_7).symm.trans hf
    refine j_aload_n X dX11_told_10 rfl rfl ?_
    refine j_iconst (v := (1 : Int32)) X dX11_told_11 (by decide) ?_
    obtain ⟨q3, g_q3, hf⟩ := ob_t hf
    refine j_callV X [0, 1, 2, 3, 4, 5, 6, 7, 8, 9, 10, 11, 12, 13, 14, 15, 16, 17, 18, 19, 20, 21, 22, 23, 24, 25, 26, 27, 28, 29, 30, 31, 32, 33, 34, 35, 36, 37, 38, 39, 40, 41, 42, 43, 44, 45, 46, 47, 48, 49, 50, 51, 52, 53, 54, 55, 56, 57, 58, 59, 60, 61, 62, 63, 64, 65, 66, 67, 68, 69, 70, 71, 72, 73, 74, 75, 76, 77, 78, 79, 80, 81, 82, 83, 84] 0 (c_X11_fails E h g g_q3) (cut_wX_wX_c ..) rfl rfl (ws' := (wX E h g q3.1)) (cut_wX_wX_w ..) (wX_0 ..) rfl k_351 k_353 k_0 k_68 k_354 (⟨rfl, rfl⟩) hdV_X11_fails ⟨Nat.le_of_ble_eq_true rfl, Nat.le_of_ble_eq_true rfl⟩ rfl (Nat.le_of_ble_eq_true rfl) rfl dX11_told_12 ?_
    obtain rfl := Option.some.inj hf
    exact j_iret X hr hlk rfl dX11_told_15 hQ
