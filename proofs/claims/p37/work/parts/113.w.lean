def f_X11_change_L50 : Nat → Mem → Int32 → Int32 → Int32 → Int32 → Int32 → Option (Mem × Int32)
  | 0, _, _, _, _, _, _ => none
  | n + 1, μ, x1, x2, x3, x4, x5 => (if (9 : Int32) ≤ x5 then (if x2 = 0 then some (μ, x3) else some (μ, x4)) else (f_X4_stands (sub [23, 24, 25, 26, 27, 28, 7, 8, 9, 10, 11, 12, 13, 14, 66, 67, 68, 69, 70, 71, 72, 73] μ) x5).bind fun q6 => (bd (put [23, 24, 25, 26, 27, 28, 7, 8, 9, 10, 11, 12, 13, 14, 66, 67, 68, 69, 70, 71, 72, 73] μ q6.1) fun μ7 => ((if q6.2 = 0 then (f_X11_change_L50 n) μ7 x1 x2 x3 x4 (x5 + (1 : Int32)) else (f_X4_copyFrom (sub [35, 36, 37, 38, 39, 40, 23, 24, 25, 26, 27, 28] μ7)).bind fun q8 => (bd (put [35, 36, 37, 38, 39, 40, 23, 24, 25, 26, 27, 28] μ7 q8) fun μ9 => ((f_X4_changePosts (sub [35, 36, 37, 38, 39, 40, 7, 8, 9, 10, 11, 12, 13, 14, 66, 67, 68, 69, 70, 71, 72, 73] μ9) x1 x5).bind fun q10 => (bd (put [35, 36, 37, 38, 39, 40, 7, 8, 9, 10, 11, 12, 13, 14, 66, 67, 68, 69, 70, 71, 72, 73] μ9 q10) fun μ11 => ((f_X4_lastsFor (sub [35, 36, 37, 38, 39, 40, 7, 8, 9, 10, 11, 12, 13, 14, 66, 67, 68, 69, 70, 71, 72, 73] μ11) x1).bind fun q12 => (bd (put [35, 36, 37, 38, 39, 40, 7, 8, 9, 10, 11, 12, 13, 14, 66, 67, 68, 69, 70, 71, 72, 73] μ11 q12.1) fun μ13 => ((if q12.2 ≤ x4 then (f_X11_change_L50 n) μ13 x1 x2 x3 x4 (x5 + (1 : Int32)) else (f_X11_change_L50 n) μ13 x1 x2 x5 q12.2 (x5 + (1 : Int32)))))))))))))
def f_X11_change (μ : Mem) (x1 : Int32) (x2 : Int32) : Option (Mem × Int32) := (f_X11_isStander x1).bind fun q1 => ((if q1 = 0 then (f_X11_fails μ (1 : Int32)).bind fun q2 => (some (q2.1, q2.2)) else (f_X11_within x2 (0 : Int32) (1 : Int32)).bind fun q3 => ((if q3 = 0 then (f_X11_fails μ (1 : Int32)).bind fun q15 => (some (q15.1, q15.2)) else (f_X4_stands (sub [23, 24, 25, 26, 27, 28, 7, 8, 9, 10, 11, 12, 13, 14, 66, 67, 68, 69, 70, 71, 72, 73] μ) x1).bind fun q4 => (bd (put [23, 24, 25, 26, 27, 28, 7, 8, 9, 10, 11, 12, 13, 14, 66, 67, 68, 69, 70, 71, 72, 73] μ q4.1) fun μ5 => ((if q4.2 = 0 then (f_X11_fails μ5 (3 : Int32)).bind fun q14 => (some (q14.1, q14.2)) else f_X11_change_L50 fuel0 μ5 x1 x2 x1 (0 : Int32) (0 : Int32))))))))
set_option maxHeartbeats 4000000 in
set_option maxRecDepth 20000 in
theorem c_X11_change (E : Ev) (h : Nat → Nat) (g : Nat → Option Nat) {μ : Mem} {x1 : Int32} {x2 : Int32} {r : (Mem × Int32)} (hf : f_X11_change μ x1 x2 = some r) : Ct E yX11_change cX11_change 7 (some .int) (rmOf 6 136) (wX E h g μ) (wX E h g r.1) [.ref (h 0), .int x1, .int x2] (some (.int r.2)) := by
  refine ct_start RX11 4 (by decide) rfl (Nat.le_of_ble_eq_true rfl) ?_
  intro p l e s m args below meth c A Q X hr hlk hQ
  have lab50 : ∀ (n : Nat) (μ : Mem) (x1 : Int32) (x2 : Int32) (x3 : Int32) (x4 : Int32) (x5 : Int32), f_X11_change_L50 n μ x1 x2 x3 x4 x5 = some r → J p l e (rmOf 6 136) s m args below meth c E A 7 Q (wX E h g μ) [some (.ref (h 0)), some (.int x1), some (.int x2), some (.int x3), some (.int x4), some (.int x5), none] 50 [] := by
    intro n
    induction n with
    | zero => intro μ x1 x2 x3 x4 x5 hf; cases (show none = some r from hf)
    | succ n ih =>
      intro μ x1 x2 x3 x4 x5 hf
      rw [f_X11_change_L50] at hf
      refine j_iload X dX11_change_50 rfl ?_
      refine j_bipush (v := (9 : Int32)) X dX11_change_52 (by decide) ?_
      refine j_icmp_ge (tgt := 129) X dX11_change_54 (by decide) (fun c_54 => ?_) (fun c_54 => ?_)
      · replace hf := (if_pos c_54).symm.trans hf
        refine j_iload_n X dX11_change_129 rfl rfl ?_
        refine j_if_ne (tgt := 137) X dX11_change_130 (by decide) (fun c_130 => ?_) (fun c_130 => ?_)
        · replace hf := (if_neg c_130).symm.trans hf
          refine j_iload X dX11_change_137 rfl ?_
          obtain rfl := Option.some.inj hf
          exact j_iret X hr hlk rfl dX11_change_139 hQ
        · replace hf := (if_pos c_130).symm.trans hf
          refine j_iload_n X dX11_change_133 rfl rfl ?_
          refine j_goto (tgt := 139) X dX11_change_134 (by decide) ?_
          obtain rfl := Option.some.inj hf
          exact j_iret X hr hlk rfl dX11_change_139 hQ
      · replace hf := (if_neg c_54).symm.trans hf
        refine j_aload_n X dX11_change_57 rfl rfl ?_
        refine j_get (C := RX11) (T := TX11) (N := 10) X iX11 0 (wX_0 ..) rfl 0 (by decide) k_310 rfl rfl dX11_change_58 ?_
        refine j_get (C := RX5) (T := TX5) (N := 8) X iX5 1 (wX_1 ..) rfl 2 (by decide) k_239 rfl rfl dX11_change_61 ?_
        refine j_iload X dX11_change_64 rfl ?_
        obtain ⟨q6, g_q6, hf⟩ := ob_t hf
        obtain ⟨μ7, e_μ7, hf⟩ := bd_e hf
        refine j_callV X [23, 24, 25, 26, 27, 28, 7, 8, 9, 10, 11, 12, 13, 14, 66, 67, 68, 69, 70, 71, 72, 73] 0 (c_X4_stands E (fun j => h (List.getD [23, 24, 25, 26, 27, 28, 7, 8, 9, 10, 11, 12, 13, 14, 66, 67, 68, 69, 70, 71, 72, 73] j 0)) (fun j => g (List.getD [0, 1] j 0)) g_q6) (cut_wX_wR_23_24_25_c ..) rfl rfl (ws' := (wX E h g μ7)) (by rw [e_μ7]; exact cut_wX_wR_23_24_25_w ..) (wR_0 ..) rfl k_454 k_455 k_456 k_78 k_457 (⟨rfl, rfl⟩) hdV_X4_stands ⟨Nat.le_of_ble_eq_true rfl, Nat.le_of_ble_eq_true rfl⟩ rfl (Nat.le_of_ble_eq_true rfl) rfl dX11_change_66 ?_
        refine j_if_ne (tgt := 75) X dX11_change_69 (by decide) (fun c_69 => ?_) (fun c_69 => ?_)
        · replace hf := (if_neg c_69).symm.trans hf
          refine j_aload_n X dX11_change_75 rfl rfl ?_
          refine j_get (C := RX11) (T := TX11) (N := 10) X iX11 0 (wX_0 ..) rfl 2 (by decide) k_312 rfl rfl dX11_change_76 ?_
          refine j_aload_n X dX11_change_79 rfl rfl ?_
          refine j_get (C := RX11) (T := TX11) (N := 10) X iX11 0 (wX_0 ..) rfl 0 (by decide) k_310 rfl rfl dX11_change_80 ?_
          refine j_get (C := RX5) (T := TX5) (N := 8) X iX5 1 (wX_1 ..) rfl 2 (by decide) k_239 rfl rfl dX11_change_83 ?_
          obtain ⟨q8, g_q8, hf⟩ := ob_t hf
          obtain ⟨μ9, e_μ9, hf⟩ := bd_e hf
          refine j_callV X [35, 36, 37, 38, 39, 40, 23, 24, 25, 26, 27, 28] 0 (c_X4_copyFrom E (fun j => h (List.getD [35, 36, 37, 38, 39, 40, 23, 24, 25, 26, 27, 28, 7, 11, 66, 7, 11, 66] j 0)) (fun j => g (List.getD [] j 0)) g_q8) (cut_wX_wRC_35_36_37_c ..) rfl rfl (ws' := (wX E h g μ9)) (by rw [e_μ9]; exact cut_wX_wRC_35_36_37_w ..) (wRC_0 ..) rfl k_638 k_639 k_640 k_78 k_641 (⟨rfl, rfl⟩) hdV_X4_copyFrom ⟨Nat.le_of_ble_eq_true rfl, Nat.le_of_ble_eq_true rfl⟩ rfl (Nat.le_of_ble_eq_true rfl) rfl dX11_change_86 ?_
          refine j_aload_n X dX11_change_89 rfl rfl ?_
          refine j_get (C := RX11) (T := TX11) (N := 10) X iX11 0 (wX_0 ..) rfl 2 (by decide) k_312 rfl rfl dX11_change_90 ?_
          refine j_iload_n X dX11_change_93 rfl rfl ?_
          refine j_iload X dX11_change_94 rfl ?_
          obtain ⟨q10, g_q10, hf⟩ := ob_t hf
          obtain ⟨μ11, e_μ11, hf⟩ := bd_e hf
          refine j_callV X [35, 36, 37, 38, 39, 40, 7, 8, 9, 10, 11, 12, 13, 14, 66, 67, 68, 69, 70, 71, 72, 73] 0 (c_X4_changePosts E (fun j => h (List.getD [35, 36, 37, 38, 39, 40, 7, 8, 9, 10, 11, 12, 13, 14, 66, 67, 68, 69, 70, 71, 72, 73] j 0)) (fun j => g (List.getD [0, 1] j 0)) g_q10) (cut_wX_wR_35_36_37_c ..) rfl rfl (ws' := (wX E h g μ11)) (by rw [e_μ11]; exact cut_wX_wR_35_36_37_w ..) (wR_0 ..) rfl k_484 k_485 k_486 k_78 k_487 (⟨rfl, rfl⟩) hdV_X4_changePosts ⟨Nat.le_of_ble_eq_true rfl, Nat.le_of_ble_eq_true rfl⟩ rfl (Nat.le_of_ble_eq_true rfl) rfl dX11_change_96 ?_
          refine j_aload_n X dX11_change_99 rfl rfl ?_
          refine j_get (C := RX11) (T := TX11) (N := 10) X iX11 0 (wX_0 ..) rfl 2 (by decide) k_312 rfl rfl dX11_change_100 ?_
          refine j_iload_n X dX11_change_103 rfl rfl ?_
          obtain ⟨q12, g_q12, hf⟩ := ob_t hf
          obtain ⟨μ13, e_μ13, hf⟩ := bd_e hf
          refine j_callV X [35, 36, 37, 38, 39, 40, 7, 8, 9, 10, 11, 12, 13, 14, 66, 67, 68, 69, 70, 71, 72, 73] 0 (c_X4_lastsFor E (fun j => h (List.getD [35, 36, 37, 38, 39, 40, 7, 8, 9, 10, 11, 12, 13, 14, 66, 67, 68, 69, 70, 71, 72, 73] j 0)) (fun j => g (List.getD [0, 1] j 0)) g_q12) (cut_wX_wR_35_36_37_c ..) rfl rfl (ws' := (wX E h g μ13)) (by rw [e_μ13]; exact cut_wX_wR_35_36_37_w ..) (wR_0 ..) rfl k_667 k_668 k_669 k_78 k_670 (⟨rfl, rfl⟩) hdV_X4_lastsFor ⟨Nat.le_of_ble_eq_true rfl, Nat.le_of_ble_eq_true rfl⟩ rfl (Nat.le_of_ble_eq_true rfl) rfl dX11_change_104 ?_
          refine j_istore6 X dX11_change_107 (by decide) rfl ?_
          refine j_iload X dX11_change_109 rfl ?_
          refine j_iload X dX11_change_111 rfl ?_
          refine j_icmp_le (tgt := 123) X dX11_change_113 (by decide) (fun c_113 => ?_) (fun c_113 => ?_)
          · replace hf := (if_pos c_113).symm.trans hf
            refine j_iinc5 (k := (1 : Int32)) X dX11_change_123 (by decide) (by decide) rfl ?_
            refine j_goto (tgt := 50) X dX11_change_126 (by decide) ?_
            refine j_keep [true, true, true, true, true, true, false] rfl ?_
            exact ih _ _ _ _ _ _ hf
          · replace hf := (if_neg c_113).symm.trans hf
            refine j_iload X dX11_change_116 rfl ?_
            refine j_istore4 X dX11_change_118 (by decide) rfl ?_
            refine j_iload X dX11_change_120 rfl ?_
            refine j_istore_n3 X dX11_change_122 rfl (by decide) rfl ?_
            refine j_iinc5 (k := (1 : Int32)) X dX11_change_123 (by decide) (by decide) rfl ?_
            refine j_goto (tgt := 50) X dX11_change_126 (by decide) ?_
            refine j_keep [true, true, true, true, true, true, false] rfl ?_
            exact ih _ _ _ _ _ _ hf
        · replace hf := (if_pos c_69).symm.trans hf
          refine j_goto (tgt := 123) X dX11_change_72 (by decide) ?_
          refine j_iinc5 (k := (1 : Int32)) X dX11_change_123 (by decide) (by decide) rfl ?_
          refine j_goto (tgt := 50) X dX11_change_126 (by decide) ?_
          refine j_keep [true, true, true, true, true, true, false] rfl ?_
          exact ih _ _ _ _ _ _ hf
  rw [f_X11_change] at hf
  refine j_iload_n X dX11_change_0 rfl rfl ?_
  obtain ⟨q1, g_q1, hf⟩ := ob_t hf
  refine j_callS X [] (c_X11_isStander E g_q1) rfl rfl rfl (ws' := (wX E h g μ)) rfl k_345 k_346 k_68 k_347 (⟨rfl, rfl⟩) hdS_X11_isStander ⟨Nat.le_of_ble_eq_true rfl, Nat.le_of_ble_eq_true rfl⟩ rfl (Nat.le_of_ble_eq_true rfl) rfl dX11_change_1 ?_
  refine j_if_eq (tgt := 16) X dX11_change_4 (by decide) (fun c_4 => ?_) (fun c_4 => ?_)
  · replace hf := (if_pos c_4).symm.trans hf
    refine j_aload_n X dX11_change_16 rfl rfl ?_
    refine j_iconst (v := (1 : Int32)) X dX11_change_17 (by decide) ?_
    obtain ⟨q2, g_q2, hf⟩ := ob_t hf
    refine j_callV X [0, 1, 2, 3, 4, 5, 6, 7, 8, 9, 10, 11, 12, 13, 14, 15, 16, 17, 18, 19, 20, 21, 22, 23, 24, 25, 26, 27, 28, 29, 30, 31, 32, 33, 34, 35, 36, 37, 38, 39, 40, 41, 42, 43, 44, 45, 46, 47, 48, 49, 50, 51, 52, 53, 54, 55, 56, 57, 58, 59, 60, 61, 62, 63, 64, 65, 66, 67, 68, 69, 70, 71, 72, 73, 74, 75, 76, 77, 78, 79, 80, 81, 82, 83, 84] 0 (c_X11_fails E h g g_q2) (cut_wX_wX_c ..) rfl rfl (ws' := (wX E h g q2.1)) (cut_wX_wX_w ..) (wX_0 ..) rfl k_351 k_353 k_0 k_68 k_354 (⟨rfl, rfl⟩) hdV_X11_fails ⟨Nat.le_of_ble_eq_true rfl, Nat.le_of_ble_eq_true rfl⟩ rfl (Nat.le_of_ble_eq_true rfl) rfl dX11_change_18 ?_
    obtain rfl := Option.some.inj hf
    exact j_iret X hr hlk rfl dX11_change_21 hQ
  · replace hf := (if_neg c_4).symm.trans hf
    refine j_iload_n X dX11_change_7 rfl rfl ?_
    refine j_iconst (v := (0 : Int32)) X dX11_change_8 (by decide) ?_
    refine j_iconst (v := (1 : Int32)) X dX11_change_9 (by decide) ?_
    obtain ⟨q3, g_q3, hf⟩ := ob_t hf
    refine j_callS X [] (c_X11_within E g_q3) rfl rfl rfl (ws' := (wX E h g μ)) rfl k_348 k_349 k_68 k_350 (⟨rfl, rfl⟩) hdS_X11_within ⟨Nat.le_of_ble_eq_true rfl, Nat.le_of_ble_eq_true rfl⟩ rfl (Nat.le_of_ble_eq_true rfl) rfl dX11_change_10 ?_
    refine j_if_ne (tgt := 22) X dX11_change_13 (by decide) (fun c_13 => ?_) (fun c_13 => ?_)
    · replace hf := (if_neg c_13).symm.trans hf
      refine j_aload_n X dX11_change_22 rfl rfl ?_
      refine j_get (C := RX11) (T := TX11) (N := 10) X iX11 0 (wX_0 ..) rfl 0 (by decide) k_310 rfl rfl dX11_change_23 ?_
      refine j_get (C := RX5) (T := TX5) (N := 8) X iX5 1 (wX_1 ..) rfl 2 (by decide) k_239 rfl rfl dX11_change_26 ?_
      refine j_iload_n X dX11_change_29 rfl rfl ?_
      obtain ⟨q4, g_q4, hf⟩ := ob_t hf
      obtain ⟨μ5, e_μ5, hf⟩ := bd_e hf
      refine j_callV X [23, 24, 25, 26, 27, 28, 7, 8, 9, 10, 11, 12, 13, 14, 66, 67, 68, 69, 70, 71, 72, 73] 0 (c_X4_stands E (fun j => h (List.getD [23, 24, 25, 26, 27, 28, 7, 8, 9, 10, 11, 12, 13, 14, 66, 67, 68, 69, 70, 71, 72, 73] j 0)) (fun j => g (List.getD [0, 1] j 0)) g_q4) (cut_wX_wR_23_24_25_c ..) rfl rfl (ws' := (wX E h g μ5)) (by rw [e_μ5]; exact cut_wX_wR_23_24_25_w ..) (wR_0 ..) rfl k_454 k_455 k_456 k_78 k_457 (⟨rfl, rfl⟩) hdV_X4_stands ⟨Nat.le_of_ble_eq_true rfl, Nat.le_of_ble_eq_true rfl⟩ rfl (Nat.le_of_ble_eq_true rfl) rfl dX11_change_30 ?_
      refine j_if_ne (tgt := 42) X dX11_change_33 (by decide) (fun c_33 => ?_) (fun c_33 => ?_)
      · replace hf := (if_neg c_33).symm.trans hf
        refine j_iload_n X dX11_change_42 rfl rfl ?_
        refine j_istore_n3 X dX11_change_43 rfl (by decide) rfl ?_
        refine j_iconst (v := (0 : Int32)) X dX11_change_44 (by decide) ?_
        refine j_istore4 X dX11_change_45 (by decide) rfl ?_
        refine j_iconst (v := (0 : Int32)) X dX11_change_47 (by decide) ?_
        refine j_istore5 X dX11_change_48 (by decide) rfl ?_
        refine j_keep [true, true, true, true, true, true, false] rfl ?_
        exact lab50 _ _ _ _ _ _ _ hf
      · replace hf := (if_pos c_33).symm.trans hf
        refine j_aload_n X dX11_change_36 rfl rfl ?_
        refine j_iconst (v := (3 : Int32)) X dX11_change_37 (by decide) ?_
        obtain ⟨q14, g_q14, hf⟩ := ob_t hf
        refine j_callV X [0, 1, 2, 3, 4, 5, 6, 7, 8, 9, 10, 11, 12, 13, 14, 15, 16, 17, 18, 19, 20, 21, 22, 23, 24, 25, 26, 27, 28, 29, 30, 31, 32, 33, 34, 35, 36, 37, 38, 39, 40, 41, 42, 43, 44, 45, 46, 47, 48, 49, 50, 51, 52, 53, 54, 55, 56, 57, 58, 59, 60, 61, 62, 63, 64, 65, 66, 67, 68, 69, 70, 71, 72, 73, 74, 75, 76, 77, 78, 79, 80, 81, 82, 83, 84] 0 (c_X11_fails E h g g_q14) (cut_wX_wX_c ..) rfl rfl (ws' := (wX E h g q14.1)) (cut_wX_wX_w ..) (wX_0 ..) rfl k_351 k_353 k_0 k_68 k_354 (⟨rfl, rfl⟩) hdV_X11_fails ⟨Nat.le_of_ble_eq_true rfl, Nat.le_of_ble_eq_true rfl⟩ rfl (Nat.le_of_ble_eq_true rfl) rfl dX11_change_38 ?_
        obtain rfl := Option.some.inj hf
        exact j_iret X hr hlk rfl dX11_change_41 hQ
    · replace hf := (if_pos c_13).symm.trans hf
      refine j_aload_n X dX11_change_16 rfl rfl ?_
      refine j_iconst (v := (1 : Int32)) X dX11_change_17 (by decide) ?_
      obtain ⟨q15, g_q15, hf⟩ := ob_t hf
      refine j_callV X [0, 1, 2, 3, 4, 5, 6, 7, 8, 9, 10, 11, 12, 13, 14, 15, 16, 17, 18, 19, 20, 21, 22, 23, 24, 25, 26, 27, 28, 29, 30, 31, 32, 33, 34, 35, 36, 37, 38, 39, 40, 41, 42, 43, 44, 45, 46, 47, 48, 49, 50, 51, 52, 53, 54, 55, 56, 57, 58, 59, 60, 61, 62, 63, 64, 65, 66, 67, 68, 69, 70, 71, 72, 73, 74, 75, 76, 77, 78, 79, 80, 81, 82, 83, 84] 0 (c_X11_fails E h g g_q15) (cut_wX_wX_c ..) rfl rfl (ws' := (wX E h g q15.1)) (cut_wX_wX_w ..) (wX_0 ..) rfl k_351 k_353 k_0 k_68 k_354 (⟨rfl, rfl⟩) hdV_X11_fails ⟨Nat.le_of_ble_eq_true rfl, Nat.le_of_ble_eq_true rfl⟩ rfl (Nat.le_of_ble_eq_true rfl) rfl dX11_change_18 ?_
      obtain rfl := Option.some.inj hf
      exact j_iret X hr hlk rfl dX11_change_21 hQ
def f_X11_isEmptiedBy_L16 : Nat → Mem → Int32 → Int32 → Option (Mem × Int32)
  | 0, _, _, _ => none
  | n + 1, μ, x1, x2 => (if (9 : Int32) ≤ x2 then (f_X4_bits (sub [35, 36, 37, 38, 39, 40, 7, 8, 9, 10, 11, 12, 13, 14, 66, 67, 68, 69, 70, 71, 72, 73] μ)).bind fun q3 => (bd (put [35, 36, 37, 38, 39, 40, 7, 8, 9, 10, 11, 12, 13, 14, 66, 67, 68, 69, 70, 71, 72, 73] μ q3.1) fun μ4 => ((if q3.2 = 0 then some (μ4, (1 : Int32)) else some (μ4, (0 : Int32))))) else (if ((x1 >>> (x2 &&& 31)) &&& (1 : Int32)) = (1 : Int32) then (f_X4_stands (sub [35, 36, 37, 38, 39, 40, 7, 8, 9, 10, 11, 12, 13, 14, 66, 67, 68, 69, 70, 71, 72, 73] μ) x2).bind fun q5 => (bd (put [35, 36, 37, 38, 39, 40, 7, 8, 9, 10, 11, 12, 13, 14, 66, 67, 68, 69, 70, 71, 72, 73] μ q5.1) fun μ6 => ((if q5.2 = 0 then (f_X11_isEmptiedBy_L16 n) μ6 x1 (x2 + (1 : Int32)) else (f_X4_pokeOne (sub [35, 36, 37, 38, 39, 40, 7, 8, 9, 10, 11, 12, 13, 14, 66, 67, 68, 69, 70, 71, 72, 73] μ6) x2).bind fun q7 => (bd (put [35, 36, 37, 38, 39, 40, 7, 8, 9, 10, 11, 12, 13, 14, 66, 67, 68, 69, 70, 71, 72, 73] μ6 q7.1) fun μ8 => ((f_X11_isEmptiedBy_L16 n) μ8 x1 (x2 + (1 : Int32))))))) else (f_X11_isEmptiedBy_L16 n) μ x1 (x2 + (1 : Int32))))
def f_X11_isEmptiedBy (μ : Mem) (x1 : Int32) : Option (Mem × Int32) := (f_X4_copyFrom (sub [35, 36, 37, 38, 39, 40, 23, 24, 25, 26, 27, 28] μ)).bind fun q1 => (bd (put [35, 36, 37, 38, 39, 40, 23, 24, 25, 26, 27, 28] μ q1) fun μ2 => (f_X11_isEmptiedBy_L16 fuel0 μ2 x1 (0 : Int32)))
set_option maxHeartbeats 4000000 in
set_option maxRecDepth 20000 in
theorem c_X11_isEmptiedBy (E : Ev) (h : Nat → Nat) (g : Nat → Option Nat) {μ : Mem} {x1 : Int32} {r : (Mem × Int32)} (hf : f_X11_isEmptiedBy μ x1 = some r) : Ct E yX11_isEmptiedBy cX11_isEmptiedBy 3 (some .boolean) (rmOf 5 114) (wX E h g μ) (wX E h g r.1) [.ref (h 0), .int x1] (some (.int r.2)) := by
  refine ct_start RX11 1 (by decide) rfl (Nat.le_of_ble_eq_true rfl) ?_
  intro p l e s m args below meth c A Q X hr hlk hQ
  have lab16 : ∀ (n : Nat) (μ : Mem) (x1 : Int32) (x2 : Int32), f_X11_isEmptiedBy_L16 n μ x1 x2 = some r → J p l e (rmOf 5 114) s m args below meth c E A 3 Q (wX E h g μ) [some (.ref (h 0)), some (.int x1), some (.int x2)] 16 [] := by
    intro n
    induction n with
    | zero => intro μ x1 x2 hf; cases (show none = some r from hf)
    | succ n ih =>
      intro μ x1 x2 hf
      rw [f_X11_isEmptiedBy_L16] at hf
      refine j_iload_n X dX11_isEmptiedBy_16 rfl rfl ?_
      refine j_bipush (v := (9 : Int32)) X dX11_isEmptiedBy_17 (by decide) ?_
      refine j_icmp_ge (tgt := 57) X dX11_isEmptiedBy_19 (by decide) (fun c_19 => ?_) (fun c_19 => ?_)
      · replace hf := (if_pos c_19).symm.trans hf
        refine j_aload_n X dX11_isEmptiedBy_57 rfl rfl ?_
        refine j_get (C := RX11) (T := TX11) (N := 10) X iX11 0 (wX_0 ..) rfl 2 (by decide) k_312 rfl rfl dX11_isEmptiedBy_58 ?_
        obtain ⟨q3, g_q3, hf⟩ := ob_t hf
        obtain ⟨μ4, e_μ4, hf⟩ := bd_e hf
        refine j_callV X [35, 36, 37, 38, 39, 40, 7, 8, 9, 10, 11, 12, 13, 14, 66, 67, 68, 69, 70, 71, 72, 73] 0 (c_X4_bits E (fun j => h (List.getD [35, 36, 37, 38, 39, 40, 7, 8, 9, 10, 11, 12, 13, 14, 66, 67, 68, 69, 70, 71, 72, 73] j 0)) (fun j => g (List.getD [0, 1] j 0)) g_q3) (cut_wX_wR_35_36_37_c ..) rfl rfl (ws' := (wX E h g μ4)) (by rw [e_μ4]; exact cut_wX_wR_35_36_37_w ..) (wR_0 ..) rfl k_702 k_654 k_655 k_78 k_656 (⟨rfl, rfl⟩) hdV_X4_bits ⟨Nat.le_of_ble_eq_true rfl, Nat.le_of_ble_eq_true rfl⟩ rfl (Nat.le_of_ble_eq_true rfl) rfl dX11_isEmptiedBy_61 ?_
        refine j_if_ne (tgt := 71) X dX11_isEmptiedBy_64 (by decide) (fun c_64 => ?_) (fun c_64 => ?_)
        · replace hf := (if_neg c_64).symm.trans hf
          refine j_iconst (v := (0 : Int32)) X dX11_isEmptiedBy_71 (by decide) ?_
          obtain rfl := Option.some.inj hf
          exact j_iret X hr hlk rfl dX11_isEmptiedBy_72 hQ
        · replace hf := (if_pos c_64).symm.trans hf
          refine j_iconst (v := (1 : Int32)) X dX11_isEmptiedBy_67 (by decide) ?_
          refine j_goto (tgt := 72) X dX11_isEmptiedBy_68 (by decide) ?_
          obtain rfl := Option.some.inj hf
          exact j_iret X hr hlk rfl dX11_isEmptiedBy_72 hQ
      · replace hf := (if_neg c_19).symm.trans hf
        refine j_iload_n X dX11_isEmptiedBy_22 rfl rfl ?_
        refine j_iload_n X dX11_isEmptiedBy_23 rfl rfl ?_
        refine j_ishr X dX11_isEmptiedBy_24 ?_
        refine j_iconst (v := (1 : Int32)) X dX11_isEmptiedBy_25 (by decide) ?_
        refine j_iand X dX11_isEmptiedBy_26 ?_
        refine j_iconst (v := (1 : Int32)) X dX11_isEmptiedBy_27 (by decide) ?_
        refine j_icmp_ne (tgt := 51) X dX11_isEmptiedBy_28 (by decide) (fun c_28 => ?_) (fun c_28 => ?_)
        · replace hf := (if_neg c_28).symm.trans hf
          refine j_iinc2 (k := (1 : Int32)) X dX11_isEmptiedBy_51 (by decide) (by decide) rfl ?_
          refine j_goto (tgt := 16) X dX11_isEmptiedBy_54 (by decide) ?_
          refine j_keep [true, true, true] rfl ?_
          exact ih _ _ _ hf
        · replace hf := (if_pos c_28).symm.trans hf
          refine j_aload_n X dX11_isEmptiedBy_31 rfl rfl ?_
          refine j_get (C := RX11) (T := TX11) (N := 10) X iX11 0 (wX_0 ..) rfl 2 (by decide) k_312 rfl rfl dX11_isEmptiedBy_32 ?_
          refine j_iload_n X dX11_isEmptiedBy_35 rfl rfl ?_
          obtain ⟨q5, g_q5, hf⟩ := ob_t hf
          obtain ⟨μ6, e_μ6, hf⟩ := bd_e hf
          refine j_callV X [35, 36, 37, 38, 39, 40, 7, 8, 9, 10, 11, 12, 13, 14, 66, 67, 68, 69, 70, 71, 72, 73] 0 (c_X4_stands E (fun j => h (List.getD [35, 36, 37, 38, 39, 40, 7, 8, 9, 10, 11, 12, 13, 14, 66, 67, 68, 69, 70, 71, 72, 73] j 0)) (fun j => g (List.getD [0, 1] j 0)) g_q5) (cut_wX_wR_35_36_37_c ..) rfl rfl (ws' := (wX E h g μ6)) (by rw [e_μ6]; exact cut_wX_wR_35_36_37_w ..) (wR_0 ..) rfl k_454 k_455 k_456 k_78 k_457 (⟨rfl, rfl⟩) hdV_X4_stands ⟨Nat.le_of_ble_eq_true rfl, Nat.le_of_ble_eq_true rfl⟩ rfl (Nat.le_of_ble_eq_true rfl) rfl dX11_isEmptiedBy_36 ?_
          refine j_if_eq (tgt := 51) X dX11_isEmptiedBy_39 (by decide) (fun c_39 => ?_) (fun c_39 => ?_)
          · replace hf := (if_pos c_39).symm.trans hf
            refine j_iinc2 (k := (1 : Int32)) X dX11_isEmptiedBy_51 (by decide) (by decide) rfl ?_
            refine j_goto (tgt := 16) X dX11_isEmptiedBy_54 (by decide) ?_
            refine j_keep [true, true, true] rfl ?_
            exact ih _ _ _ hf
          · replace hf := (if_neg c_39).symm.trans hf
            refine j_aload_n X dX11_isEmptiedBy_42 rfl rfl ?_
            refine j_get (C := RX11) (T := TX11) (N := 10) X iX11 0 (wX_0 ..) rfl 2 (by decide) k_312 rfl rfl dX11_isEmptiedBy_43 ?_
            refine j_iload_n X dX11_isEmptiedBy_46 rfl rfl ?_
            obtain ⟨q7, g_q7, hf⟩ := ob_t hf
            obtain ⟨μ8, e_μ8, hf⟩ := bd_e hf
            refine j_callV X [35, 36, 37, 38, 39, 40, 7, 8, 9, 10, 11, 12, 13, 14, 66, 67, 68, 69, 70, 71, 72, 73] 0 (c_X4_pokeOne E (fun j => h (List.getD [35, 36, 37, 38, 39, 40, 7, 8, 9, 10, 11, 12, 13, 14, 66, 67, 68, 69, 70, 71, 72, 73] j 0)) (fun j => g (List.getD [0, 1] j 0)) g_q7) (cut_wX_wR_35_36_37_c ..) rfl rfl (ws' := (wX E h g μ8)) (by rw [e_μ8]; exact cut_wX_wR_35_36_37_w ..) (wR_0 ..) rfl k_613 k_614 k_615 k_78 k_616 (⟨rfl, rfl⟩) hdV_X4_pokeOne ⟨Nat.le_of_ble_eq_true rfl, Nat.le_of_ble_eq_true rfl⟩ rfl (Nat.le_of_ble_eq_true rfl) rfl dX11_isEmptiedBy_47 ?_
            refine j_pop X dX11_isEmptiedBy_50 rfl ?_
            refine j_iinc2 (k := (1 : Int32)) X dX11_isEmptiedBy_51 (by decide) (by decide) rfl ?_
            refine j_goto (tgt := 16) X dX11_isEmptiedBy_54 (by decide) ?_
            refine j_keep [true, true, true] rfl ?_
            exact ih _ _ _ hf
  rw [f_X11_isEmptiedBy] at hf
  refine j_aload_n X dX11_isEmptiedBy_0 rfl rfl ?_
  refine j_get (C := RX11) (T := TX11) (N := 10) X iX11 0 (wX_0 ..) rfl 2 (by decide) k_312 rfl rfl dX11_isEmptiedBy_1 ?_
  refine j_aload_n X dX11_isEmptiedBy_4 rfl rfl ?_
  refine j_get (C := RX11) (T := TX11) (N := 10) X iX11 0 (wX_0 ..) rfl 0 (by decide) k_310 rfl rfl dX11_isEmptiedBy_5 ?_
  refine j_get (C := RX5) (T := TX5) (N := 8) X iX5 1 (wX_1 ..) rfl 2 (by decide) k_239 rfl rfl dX11_isEmptiedBy_8 ?_
  obtain ⟨q1, g_q1, hf⟩ := ob_t hf
  obtain ⟨μ2, e_μ2, hf⟩ := bd_e hf
  refine j_callV X [35, 36, 37, 38, 39, 40, 23, 24, 25, 26, 27, 28] 0 (c_X4_copyFrom E (fun j => h (List.getD [35, 36, 37, 38, 39, 40, 23, 24, 25, 26, 27, 28, 7, 11, 66, 7, 11, 66] j 0)) (fun j => g (List.getD [] j 0)) g_q1) (cut_wX_wRC_35_36_37_c ..) rfl rfl (ws' := (wX E h g μ2)) (by rw [e_μ2]; exact cut_wX_wRC_35_36_37_w ..) (wRC_0 ..) rfl k_638 k_639 k_640 k_78 k_641 (⟨rfl, rfl⟩) hdV_X4_copyFrom ⟨Nat.le_of_ble_eq_true rfl, Nat.le_of_ble_eq_true rfl⟩ rfl (Nat.le_of_ble_eq_true rfl) rfl dX11_isEmptiedBy_11 ?_
  refine j_iconst (v := (0 : Int32)) X dX11_isEmptiedBy_14 (by decide) ?_
  refine j_istore_n2 X dX11_isEmptiedBy_15 rfl (by decide) rfl ?_
  refine j_keep [true, true, true] rfl ?_
  exact lab16 _ _ _ _ hf
def f_X11_empties_L54 (K31 : Mem → Int32 → Int32 → Int32 → Int32 → Option (Mem × Int32)) (μ : Mem) (x1 : Int32) (x2 : Int32) (x3 : Int32) (x4 : Int32) (t0 : Int32) : Option (Mem × Int32) := (if t0 = 0 then K31 μ x1 x2 x3 (x4 + (1 : Int32)) else (if (x4 &&& (x2 ^^^ (-1 : Int32))) = 0 then (f_X11_isEmptiedBy μ x4).bind fun q7 => ((if q7.2 = 0 then K31 q7.1 x1 x2 x3 (x4 + (1 : Int32)) else K31 q7.1 x1 x2 x4 (x4 + (1 : Int32)))) else K31 μ x1 x2 x3 (x4 + (1 : Int32))))
def f_X11_empties_L31 : Nat → Mem → Int32 → Int32 → Int32 → Int32 → Option (Mem × Int32)
  | 0, _, _, _, _, _ => none
  | n + 1, μ, x1, x2, x3, x4 => (if x2 ≤ x4 then (if x1 = 0 then (f_J6_bitCount_0f7a4 x3).bind fun q4 => (some (μ, q4)) else some (μ, x3)) else (f_J6_bitCount_0f7a4 x4).bind fun q5 => ((f_J6_bitCount_0f7a4 x3).bind fun q6 => ((if q6 ≤ q5 then f_X11_empties_L54 (f_X11_empties_L31 n) μ x1 x2 x3 x4 (0 : Int32) else f_X11_empties_L54 (f_X11_empties_L31 n) μ x1 x2 x3 x4 (1 : Int32)))))
def f_X11_empties (μ : Mem) (x1 : Int32) : Option (Mem × Int32) := (f_X11_within x1 (0 : Int32) (1 : Int32)).bind fun q1 => ((if q1 = 0 then (f_X11_fails μ (1 : Int32)).bind fun q8 => (some (q8.1, q8.2)) else (f_X4_bits (sub [23, 24, 25, 26, 27, 28, 7, 8, 9, 10, 11, 12, 13, 14, 66, 67, 68, 69, 70, 71, 72, 73] μ)).bind fun q2 => (bd (put [23, 24, 25, 26, 27, 28, 7, 8, 9, 10, 11, 12, 13, 14, 66, 67, 68, 69, 70, 71, 72, 73] μ q2.1) fun μ3 => (f_X11_empties_L31 fuel0 μ3 x1 q2.2 q2.2 (0 : Int32)))))
set_option maxHeartbeats 4000000 in
set_option maxRecDepth 20000 in
theorem c_X11_empties (E : Ev) (h : Nat → Nat) (g : Nat → Option Nat) {μ : Mem} {x1 : Int32} {r : (Mem × Int32)} (hf : f_X11_empties μ x1 = some r) : Ct E yX11_empties cX11_empties 6 (some .int) (rmOf 6 136) (wX E h g μ) (wX E h g r.1) [.ref (h 0), .int x1] (some (.int r.2)) := by
  refine ct_start RX11 4 (by decide) rfl (Nat.le_of_ble_eq_true rfl) ?_
  intro p l e s m args below meth c A Q X hr hlk hQ
  have lab54 : ∀ (K31 : Mem → Int32 → Int32 → Int32 → Int32 → Option (Mem × Int32)) (hK31 : ∀ (μ : Mem) (x1 : Int32) (x2 : Int32) (x3 : Int32) (x4 : Int32), K31 μ x1 x2 x3 x4 = some r → J p l e (rmOf 6 136) s m args below meth c E A 6 Q (wX E h g μ) [some (.ref (h 0)), some (.int x1), some (.int x2), some (.int x3), some (.int x4), none] 31 []) (μ : Mem) (x1 : Int32) (x2 : Int32) (x3 : Int32) (x4 : Int32) (t0 : Int32), f_X11_empties_L54 K31 μ x1 x2 x3 x4 t0 = some r → J p l e (rmOf 6 136) s m args below meth c E A 6 Q (wX E h g μ) [some (.ref (h 0)), some (.int x1), some (.int x2), some (.int x3), some (.int x4), none] 54 [.int t0] := by
    intro K31 hK31 μ x1 x2 x3 x4 t0 hf
    rw [f_X11_empties_L54] at hf
    refine j_istore5 X dX11_empties_54 (by decide) rfl ?_
    refine j_iload X dX11_empties_56 rfl ?_
    refine j_if_eq (tgt := 82) X dX11_empties_58 (by decide) (fun c_58 => ?_) (fun c_58 => ?_)
    · replace hf := (if_pos c_58).symm.trans hf
      refine j_iinc4 (k := (1 : Int32)) X dX11_empties_82 (by decide) (by decide) rfl ?_
      refine j_goto (tgt := 31) X dX11_empties_85 (by decide) ?_
      refine j_keep [true, true, true, true, true, false] rfl ?_
      exact hK31 _ _ _ _ _ hf
    · replace hf := (if_neg c_58).symm.trans hf
      refine j_iload X dX11_empties_61 rfl ?_
      refine j_iload_n X dX11_empties_63 rfl rfl ?_
      refine j_iconst (v := (-1 : Int32)) X dX11_empties_64 (by decide) ?_
      refine j_ixor X dX11_empties_65 ?_
      refine j_iand X dX11_empties_66 ?_
      refine j_if_ne (tgt := 82) X dX11_empties_67 (by decide) (fun c_67 => ?_) (fun c_67 => ?_)
      · replace hf := (if_neg c_67).symm.trans hf
        refine j_iinc4 (k := (1 : Int32)) X dX11_empties_82 (by decide) (by decide) rfl ?_
        refine j_goto (tgt := 31) X dX11_empties_85 (by decide) ?_
        refine j_keep [true, true, true, true, true, false] rfl ?_
        exact hK31 _ _ _ _ _ hf
      · replace hf := (if_pos c_67).symm.trans hf
        refine j_aload_n X dX11_empties_70 rfl rfl ?_
        refine j_iload X dX11_empties_71 rfl ?_
        obtain ⟨q7, g_q7, hf⟩ := ob_t hf
        refine j_callV X [0, 1, 2, 3, 4, 5, 6, 7, 8, 9, 10, 11, 12, 13, 14, 15, 16, 17, 18, 19, 20, 21, 22, 23, 24, 25, 26, 27, 28, 29, 30, 31, 32, 33, 34, 35, 36, 37, 38, 39, 40, 41, 42, 43, 44, 45, 46, 47, 48, 49, 50, 51, 52, 53, 54, 55, 56, 57, 58, 59, 60, 61, 62, 63, 64, 65, 66, 67, 68, 69, 70, 71, 72, 73, 74, 75, 76, 77, 78, 79, 80, 81, 82, 83, 84] 0 (c_X11_isEmptiedBy E h g g_q7) (cut_wX_wX_c ..) rfl rfl (ws' := (wX E h g q7.1)) (cut_wX_wX_w ..) (wX_0 ..) rfl k_704 k_706 k_20 k_68 k_707 (⟨rfl, rfl⟩) hdV_X11_isEmptiedBy ⟨Nat.le_of_ble_eq_true rfl, Nat.le_of_ble_eq_true rfl⟩ rfl (Nat.le_of_ble_eq_true rfl) rfl dX11_empties_73 ?_
        refine j_if_eq (tgt := 82) X dX11_empties_76 (by decide) (fun c_76 => ?_) (fun c_76 => ?_)
        · replace hf := (if_pos c_76).symm.trans hf
          refine j_iinc4 (k := (1 : Int32)) X dX11_empties_82 (by decide) (by decide) rfl ?_
          refine j_goto (tgt := 31) X dX11_empties_85 (by decide) ?_
          refine j_keep [true, true, true, true, true, false] rfl ?_
          exact hK31 _ _ _ _ _ hf
        · replace hf := (if_neg c_76).symm.trans hf
          refine j_iload X dX11_empties_79 rfl ?_
          refine j_istore_n3 X dX11_empties_81 rfl (by decide) rfl ?_
          refine j_iinc4 (k := (1 : Int32)) X dX11_empties_82 (by decide) (by decide) rfl ?_
          refine j_goto (tgt := 31) X dX11_empties_85 (by decide) ?_
          refine j_keep [true, true, true, true, true, false] rfl ?_
          exact hK31 _ _ _ _ _ hf
  have lab31 : ∀ (n : Nat) (μ : Mem) (x1 : Int32) (x2 : Int32) (x3 : Int32) (x4 : Int32), f_X11_empties_L31 n μ x1 x2 x3 x4 = some r → J p l e (rmOf 6 136) s m args below meth c E A 6 Q (wX E h g μ) [some (.ref (h 0)), some (.int x1), some (.int x2), some (.int x3), some (.int x4), none] 31 [] := by
    intro n
    induction n with
    | zero => intro μ x1 x2 x3 x4 hf; cases (show none = some r from hf)
    | succ n ih =>
      intro μ x1 x2 x3 x4 hf
      rw [f_X11_empties_L31] at hf
      refine j_iload X dX11_empties_31 rfl ?_
      refine j_iload_n X dX11_empties_33 rfl rfl ?_
      refine j_icmp_ge (tgt := 88) X dX11_empties_34 (by decide) (fun c_34 => ?_) (fun c_34 => ?_)
      · replace hf := (if_pos c_34).symm.trans hf
        refine j_iload_n X dX11_empties_88 rfl rfl ?_
        refine j_if_ne (tgt := 99) X dX11_empties_89 (by decide) (fun c_89 => ?_) (fun c_89 => ?_)
        · replace hf := (if_neg c_89).symm.trans hf
          refine j_iload_n X dX11_empties_99 rfl rfl ?_
          obtain rfl := Option.some.inj hf
          exact j_iret X hr hlk rfl dX11_empties_100 hQ
        · replace hf := (if_pos c_89).symm.trans hf
          refine j_iload_n X dX11_empties_92 rfl rfl ?_
          obtain ⟨q4, g_q4, hf⟩ := ob_t hf
          refine j_callS X [] (c_J6_bitCount_0f7a4 E g_q4) rfl rfl rfl (ws' := (wX E h g μ)) rfl k_703 k_658 k_83 k_659 (⟨rfl, rfl⟩) hdS_J6_bitCount_0f7a4 ⟨Nat.le_of_ble_eq_true rfl, Nat.le_of_ble_eq_true rfl⟩ rfl (Nat.le_of_ble_eq_true rfl) rfl dX11_empties_93 ?_
          refine j_goto (tgt := 100) X dX11_empties_96 (by decide) ?_
          obtain rfl := Option.some.inj hf
          exact j_iret X hr hlk rfl dX11_empties_100 hQ
      · replace hf := (if_neg c_34).symm.trans hf
        refine j_iload X dX11_empties_37 rfl ?_
        obtain ⟨q5, g_q5, hf⟩ := ob_t hf
        refine j_callS X [] (c_J6_bitCount_0f7a4 E g_q5) rfl rfl rfl (ws' := (wX E h g μ)) rfl k_703 k_658 k_83 k_659 (⟨rfl, rfl⟩) hdS_J6_bitCount_0f7a4 ⟨Nat.le_of_ble_eq_true rfl, Nat.le_of_ble_eq_true rfl⟩ rfl (Nat.le_of_ble_eq_true rfl) rfl dX11_empties_39 ?_
        refine j_iload_n X dX11_empties_42 rfl rfl ?_
        obtain ⟨q6, g_q6, hf⟩ := ob_t hf
        refine j_callS X [] (c_J6_bitCount_0f7a4 E g_q6) rfl rfl rfl (ws' := (wX E h g μ)) rfl k_703 k_658 k_83 k_659 (⟨rfl, rfl⟩) hdS_J6_bitCount_0f7a4 ⟨Nat.le_of_ble_eq_true rfl, Nat.le_of_ble_eq_true rfl⟩ rfl (Nat.le_of_ble_eq_true rfl) rfl dX11_empties_43 ?_
        refine j_icmp_ge (tgt := 53) X dX11_empties_46 (by decide) (fun c_46 => ?_) (fun c_46 => ?_)
        · replace hf := (if_pos c_46).symm.trans hf
          refine j_iconst (v := (0 : Int32)) X dX11_empties_53 (by decide) ?_
          refine j_keep [true, true, true, true, true, false] rfl ?_
          exact lab54 _ ih _ _ _ _ _ _ hf
        · replace hf := (if_neg c_46).symm.trans hf
          refine j_iconst (v := (1 : Int32)) X dX11_empties_49 (by decide) ?_
          refine j_goto (tgt := 54) X dX11_empties_50 (by decide) ?_
          refine j_keep [true, true, true, true, true, false] rfl ?_
          exact lab54 _ ih _ _ _ _ _ _ hf
  rw [f_X11_empties] at hf
  refine j_iload_n X dX11_empties_0 rfl rfl ?_
  refine j_iconst (v := (0 : Int32)) X dX11_empties_1 (by decide) ?_
  refine j_iconst (v := (1 : Int32)) X dX11_empties_2 (by decide) ?_
  obtain ⟨q1, g_q1, hf⟩ := ob_t hf
  refine j_callS X [] (c_X11_within E g_q1) rfl rfl rfl (ws' := (wX E h g μ)) rfl k_348 k_349 k_68 k_350 (⟨rfl, rfl⟩) hdS_X11_within ⟨Nat.le_of_ble_eq_true rfl, Nat.le_of_ble_eq_true rfl⟩ rfl (Nat.le_of_ble_eq_true rfl) rfl dX11_empties_3 ?_
  refine j_if_ne (tgt := 15) X dX11_empties_6 (by decide) (fun c_6 => ?_) (fun c_6 => ?_)
  · replace hf := (if_neg c_6).symm.trans hf
    refine j_aload_n X dX11_empties_15 rfl rfl ?_
    refine j_get (C := RX11) (T := TX11) (N := 10) X iX11 0 (wX_0 ..) rfl 0 (by decide) k_310 rfl rfl dX11_empties_16 ?_
    refine j_get (C := RX5) (T := TX5) (N := 8) X iX5 1 (wX_1 ..) rfl 2 (by decide) k_239 rfl rfl dX11_empties_19 ?_
    obtain ⟨q2, g_q2, hf⟩ := ob_t hf
    obtain ⟨μ3, e_μ3, hf⟩ := bd_e hf
    refine j_callV X [23, 24, 25, 26, 27, 28, 7, 8, 9, 10, 11, 12, 13, 14, 66, 67, 68, 69, 70, 71, 72, 73] 0 (c_X4_bits E (fun j => h (List.getD [23, 24, 25, 26, 27, 28, 7, 8, 9, 10, 11, 12, 13, 14, 66, 67, 68, 69, 70, 71, 72, 73] j 0)) (fun j => g (List.getD [0, 1] j 0)) g_q2) (cut_wX_wR_23_24_25_c ..) rfl rfl (ws' := (wX E h g μ3)) (by rw [e_μ3]; exact cut_wX_wR_23_24_25_w ..) (wR_0 ..) rfl k_702 k_654 k_655 k_78 k_656 (⟨rfl, rfl⟩) hdV_X4_bits ⟨Nat.le_of_ble_eq_true rfl, Nat.le_of_ble_eq_true rfl⟩ rfl (Nat.le_of_ble_eq_true rfl) rfl dX11_empties_22 ?_
    refine j_istore_n2 X dX11_empties_25 rfl (by decide) rfl ?_
    refine j_iload_n X dX11_empties_26 rfl rfl ?_
    refine j_istore_n3 X dX11_empties_27 rfl (by decide) rfl ?_
    refine j_iconst (v := (0 : Int32)) X dX11_empties_28 (by decide) ?_
    refine j_istore4 X dX11_empties_29 (by decide) rfl ?_
    refine j_keep [true, true, true, true, true, false] rfl ?_
    exact lab31 _ _ _ _ _ _ hf
  · replace hf := (if_pos c_6).symm.trans hf
    refine j_aload_n X dX11_empties_9 rfl rfl ?_
    refine j_iconst (v := (1 : Int32)) X dX11_empties_10 (by decide) ?_
    obtain ⟨q8, g_q8, hf⟩ := ob_t hf
    refine j_callV X [0, 1, 2, 3, 4, 5, 6, 7, 8, 9, 10, 11, 12, 13, 14, 15, 16, 17, 18, 19, 20, 21, 22, 23, 24, 25, 26, 27, 28, 29, 30, 31, 32, 33, 34, 35, 36, 37, 38, 39, 40, 41, 42, 43, 44, 45, 46, 47, 48, 49, 50, 51, 52, 53, 54, 55, 56, 57, 58, 59, 60, 61, 62, 63, 64, 65, 66, 67, 68, 69, 70, 71, 72, 73, 74, 75, 76, 77, 78, 79, 80, 81, 82, 83, 84] 0 (c_X11_fails E h g g_q8) (cut_wX_wX_c ..) rfl rfl (ws' := (wX E h g q8.1)) (cut_wX_wX_w ..) (wX_0 ..) rfl k_351 k_353 k_0 k_68 k_354 (⟨rfl, rfl⟩) hdV_X11_fails ⟨Nat.le_of_ble_eq_true rfl, Nat.le_of_ble_eq_true rfl⟩ rfl (Nat.le_of_ble_eq_true rfl) rfl dX11_empties_11 ?_
    obtain rfl := Option.some.inj hf
    exact j_iret X hr hlk rfl dX11_empties_14 hQ
def f_X11_whose_L33 : Nat → Mem → Int32 → Int32 → Int32 → Int32 → Option (Mem × Int32)
  | 0, _, _, _, _, _ => none
  | n + 1, μ, x1, x2, x3, x4 => (if (9 : Int32) ≤ x4 then some (μ, x3) else (f_X4_stands (sub [23, 24, 25, 26, 27, 28, 7, 8, 9, 10, 11, 12, 13, 14, 66, 67, 68, 69, 70, 71, 72, 73] μ) x4).bind fun q4 => (bd (put [23, 24, 25, 26, 27, 28, 7, 8, 9, 10, 11, 12, 13, 14, 66, 67, 68, 69, 70, 71, 72, 73] μ q4.1) fun μ5 => ((if q4.2 = 0 then (f_X11_whose_L33 n) μ5 x1 x2 x3 (x4 + (1 : Int32)) else (f_X4_copyFrom (sub [35, 36, 37, 38, 39, 40, 23, 24, 25, 26, 27, 28] μ5)).bind fun q6 => (bd (put [35, 36, 37, 38, 39, 40, 23, 24, 25, 26, 27, 28] μ5 q6) fun μ7 => ((f_X4_pokeOne (sub [35, 36, 37, 38, 39, 40, 7, 8, 9, 10, 11, 12, 13, 14, 66, 67, 68, 69, 70, 71, 72, 73] μ7) x4).bind fun q8 => (bd (put [35, 36, 37, 38, 39, 40, 7, 8, 9, 10, 11, 12, 13, 14, 66, 67, 68, 69, 70, 71, 72, 73] μ7 q8.1) fun μ9 => ((f_X4_bits (sub [35, 36, 37, 38, 39, 40, 7, 8, 9, 10, 11, 12, 13, 14, 66, 67, 68, 69, 70, 71, 72, 73] μ9)).bind fun q10 => (bd (put [35, 36, 37, 38, 39, 40, 7, 8, 9, 10, 11, 12, 13, 14, 66, 67, 68, 69, 70, 71, 72, 73] μ9 q10.1) fun μ11 => ((if (x2 &&& (q10.2 ^^^ (-1 : Int32))) = x1 then bd (x3 ||| ((1 : Int32) <<< (x4 &&& 31))) fun y12 => ((f_X11_whose_L33 n) μ11 x1 x2 y12 (x4 + (1 : Int32))) else (f_X11_whose_L33 n) μ11 x1 x2 x3 (x4 + (1 : Int32)))))))))))))
def f_X11_whose (μ : Mem) (x1 : Int32) : Option (Mem × Int32) := (f_X11_within x1 (0 : Int32) (511 : Int32)).bind fun q1 => ((if q1 = 0 then (f_X11_fails μ (1 : Int32)).bind fun q13 => (some (q13.1, q13.2)) else (f_X4_bits (sub [23, 24, 25, 26, 27, 28, 7, 8, 9, 10, 11, 12, 13, 14, 66, 67, 68, 69, 70, 71, 72, 73] μ)).bind fun q2 => (bd (put [23, 24, 25, 26, 27, 28, 7, 8, 9, 10, 11, 12, 13, 14, 66, 67, 68, 69, 70, 71, 72, 73] μ q2.1) fun μ3 => (f_X11_whose_L33 fuel0 μ3 x1 q2.2 (0 : Int32) (0 : Int32)))))
set_option maxHeartbeats 4000000 in
set_option maxRecDepth 20000 in
theorem c_X11_whose (E : Ev) (h : Nat → Nat) (g : Nat → Option Nat) {μ : Mem} {x1 : Int32} {r : (Mem × Int32)} (hf : f_X11_whose μ x1 = some r) : Ct E yX11_whose cX11_whose 5 (some .int) (rmOf 5 114) (wX E h g μ) (wX E h g r.1) [.ref (h 0), .int x1] (some (.int r.2)) := by
  refine ct_start RX11 3 (by decide) rfl (Nat.le_of_ble_eq_true rfl) ?_
  intro p l e s m args below meth c A Q X hr hlk hQ
  have lab33 : ∀ (n : Nat) (μ : Mem) (x1 : Int32) (x2 : Int32) (x3 : Int32) (x4 : Int32), f_X11_whose_L33 n μ x1 x2 x3 x4 = some r → J p l e (rmOf 5 114) s m args below meth c E A 5 Q (wX E h g μ) [some (.ref (h 0)), some (.int x1), some (.int x2), some (.int x3), some (.int x4)] 33 [] := by
    intro n
    induction n with
    | zero => intro μ x1 x2 x3 x4 hf; cases (show none = some r from hf)
    | succ n ih =>
      intro μ x1 x2 x3 x4 hf
      rw [f_X11_whose_L33] at hf
      refine j_iload X dX11_whose_33 rfl ?_
      refine j_bipush (v := (9 : Int32)) X dX11_whose_35 (by decide) ?_
      refine j_icmp_ge (tgt := 110) X dX11_whose_37 (by decide) (fun c_37 => ?_) (fun c_37 => ?_)
      · replace hf := (if_pos c_37).symm.trans hf
        refine j_iload_n X dX11_whose_110 rfl rfl ?_
        obtain rfl := Option.some.inj hf
        exact j_iret X hr hlk rfl dX11_whose_111 hQ
      · replace hf := (if_neg c_37).symm.trans hf
        refine j_aload_n X dX11_whose_40 rfl rfl ?_
        refine j_get (C := RX11) (T := TX11) (N := 10) X iX11 0 (wX_0 ..) rfl 0 (by decide) k_310 rfl rfl dX11_whose_41 ?_
        refine j_get (C := RX5) (T := TX5) (N := 8) X iX5 1 (wX_1 ..) rfl 2 (by decide) k_239 rfl rfl dX11_whose_44 ?_
        refine j_iload X dX11_whose_47 rfl ?_
        obtain ⟨q4, g_q4, hf⟩ := ob_t hf
        obtain ⟨μ5, e_μ5, hf⟩ := bd_e hf
        refine j_callV X [23, 24, 25, 26, 27, 28, 7, 8, 9, 10, 11, 12, 13, 14, 66, 67, 68, 69, 70, 71, 72, 73] 0 (c_X4_stands E (fun j => h (List.getD [23, 24, 25, 26, 27, 28, 7, 8, 9, 10, 11, 12, 13, 14, 66, 67, 68, 69, 70, 71, 72, 73] j 0)) (fun j => g (List.getD [0, 1] j 0)) g_q4) (cut_wX_wR_23_24_25_c ..) rfl rfl (ws' := (wX E h g μ5)) (by rw [e_μ5]; exact cut_wX_wR_23_24_25_w ..) (wR_0 ..) rfl k_454 k_455 k_456 k_78 k_457 (⟨rfl, rfl⟩) hdV_X4_stands ⟨Nat.le_of_ble_eq_true rfl, Nat.le_of_ble_eq_true rfl⟩ rfl (Nat.le_of_ble_eq_true rfl) rfl dX11_whose_49 ?_
        refine j_if_ne (tgt := 58) X dX11_whose_52 (by decide) (fun c_52 => ?_) (fun c_52 => ?_)
        · replace hf := (if_neg c_52).symm.trans hf
          refine j_aload_n X dX11_whose_58 rfl rfl ?_
          refine j_get (C := RX11) (T := TX11) (N := 10) X iX11 0 (wX_0 ..) rfl 2 (by decide) k_312 rfl rfl dX11_whose_59 ?_
          refine j_aload_n X dX11_whose_62 rfl rfl ?_
          refine j_get (C := RX11) (T := TX11) (N := 10) X iX11 0 (wX_0 ..) rfl 0 (by decide) k_310 rfl rfl dX11_whose_63 ?_
          refine j_get (C := RX5) (T := TX5) (N := 8) X iX5 1 (wX_1 ..) rfl 2 (by decide) k_239 rfl rfl dX11_whose_66 ?_
          obtain ⟨q6, g_q6, hf⟩ := ob_t hf
          obtain ⟨μ7, e_μ7, hf⟩ := bd_e hf
          refine j_callV X [35, 36, 37, 38, 39, 40, 23, 24, 25, 26, 27, 28] 0 (c_X4_copyFrom E (fun j => h (List.getD [35, 36, 37, 38, 39, 40, 23, 24, 25, 26, 27, 28, 7, 11, 66, 7, 11, 66] j 0)) (fun j => g (List.getD [] j 0)) g_q6) (cut_wX_wRC_35_36_37_c ..) rfl rfl (ws' := (wX E h g μ7)) (by rw [e_μ7]; exact cut_wX_wRC_35_36_37_w ..) (wRC_0 ..) rfl k_638 k_639 k_640 k_78 k_641 (⟨rfl, rfl⟩) hdV_X4_copyFrom ⟨Nat.le_of_ble_eq_true rfl, Nat.le_of_ble_eq_true rfl⟩ rfl (Nat.le_of_ble_eq_true rfl) rfl dX11_whose_69 ?_
          refine j_aload_n X dX11_whose_72 rfl rfl ?_
          refine j_get (C := RX11) (T := TX11) (N := 10) X iX11 0 (wX_0 ..) rfl 2 (by decide) k_312 rfl rfl dX11_whose_73 ?_
          refine j_iload X dX11_whose_76 rfl ?_
          obtain ⟨q8, g_q8, hf⟩ := ob_t hf
          obtain ⟨μ9, e_μ9, hf⟩ := bd_e hf
          refine j_callV X [35, 36, 37, 38, 39, 40, 7, 8, 9, 10, 11, 12, 13, 14, 66, 67, 68, 69, 70, 71, 72, 73] 0 (c_X4_pokeOne E (fun j => h (List.getD [35, 36, 37, 38, 39, 40, 7, 8, 9, 10, 11, 12, 13, 14, 66, 67, 68, 69, 70, 71, 72, 73] j 0)) (fun j => g (List.getD [0, 1] j 0)) g_q8) (cut_wX_wR_35_36_37_c ..) rfl rfl (ws' := (wX E h g μ9)) (by rw [e_μ9]; exact cut_wX_wR_35_36_37_w ..) (wR_0 ..) rfl k_613 k_614 k_615 k_78 k_616 (⟨rfl, rfl⟩) hdV_X4_pokeOne ⟨Nat.le_of_ble_eq_true rfl, Nat.le_of_ble_eq_true rfl⟩ rfl (Nat.le_of_ble_eq_true rfl) rfl dX11_whose_78 ?_
          refine j_pop X dX11_whose_81 rfl ?_
          refine j_iload_n X dX11_whose_82 rfl rfl ?_
          refine j_aload_n X dX11_whose_83 rfl rfl ?_
          refine j_get (C := RX11) (T := TX11) (N := 10) X iX11 0 (wX_0 ..) rfl 2 (by decide) k_312 rfl rfl dX11_whose_84 ?_
          obtain ⟨q10, g_q10, hf⟩ := ob_t hf
          obtain ⟨μ11, e_μ11, hf⟩ := bd_e hf
          refine j_callV X [35, 36, 37, 38, 39, 40, 7, 8, 9, 10, 11, 12, 13, 14, 66, 67, 68, 69, 70, 71, 72, 73] 0 (c_X4_bits E (fun j => h (List.getD [35, 36, 37, 38, 39, 40, 7, 8, 9, 10, 11, 12, 13, 14, 66, 67, 68, 69, 70, 71, 72, 73] j 0)) (fun j => g (List.getD [0, 1] j 0)) g_q10) (cut_wX_wR_35_36_37_c ..) rfl rfl (ws' := (wX E h g μ11)) (by rw [e_μ11]; exact cut_wX_wR_35_36_37_w ..) (wR_0 ..) rfl k_702 k_654 k_655 k_78 k_656 (⟨rfl, rfl⟩) hdV_X4_bits ⟨Nat.le_of_ble_eq_true rfl, Nat.le_of_ble_eq_true rfl⟩ rfl (Nat.le_of_ble_eq_true rfl) rfl dX11_whose_87 ?_
          refine j_iconst (v := (-1 : Int32)) X dX11_whose_90 (by decide) ?_
          refine j_ixor X dX11_whose_91 ?_
          refine j_iand X dX11_whose_92 ?_
          refine j_iload_n X dX11_whose_93 rfl rfl ?_
          refine j_icmp_ne (tgt := 104) X dX11_whose_94 (by decide) (fun c_94 => ?_) (fun c_94 => ?_)
          · replace hf := (if_neg c_94).symm.trans hf
            refine j_iinc4 (k := (1 : Int32)) X dX11_whose_104 (by decide) (by decide) rfl ?_
            refine j_goto (tgt := 33) X dX11_whose_107 (by decide) ?_
            refine j_keep [true, true, true, true, true] rfl ?_
            exact ih _ _ _ _ _ hf
          · replace hf := (if_pos c_94).symm.trans hf
            refine j_iload_n X dX11_whose_97 rfl rfl ?_
            refine j_iconst (v := (1 : Int32)) X dX11_whose_98 (by decide) ?_
            refine j_iload X dX11_whose_99 rfl ?_
            refine j_ishl X dX11_whose_101 ?_
            refine j_ior X dX11_whose_102 ?_
            obtain ⟨y12, e_y12, hf⟩ := bd_e hf
            refine j_top e_y12 ?_
            refine j_istore_n3 X dX11_whose_103 rfl (by decide) rfl ?_
            refine j_iinc4 (k := (1 : Int32)) X dX11_whose_104 (by decide) (by decide) rfl ?_
            refine j_goto (tgt := 33) X dX11_whose_107 (by decide) ?_
            refine j_keep [true, true, true, true, true] rfl ?_
            exact ih _ _ _ _ _ hf
        · replace hf := (if_pos c_52).symm.trans hf
          refine j_goto (tgt := 104) X dX11_whose_55 (by decide) ?_
          refine j_iinc4 (k := (1 : Int32)) X dX11_whose_104 (by decide) (by decide) rfl ?_
          refine j_goto (tgt := 33) X dX11_whose_107 (by decide) ?_
          refine j_keep [true, true, true, true, true] rfl ?_
          exact ih _ _ _ _ _ hf
  rw [f_X11_whose] at hf
  refine j_iload_n X dX11_whose_0 rfl rfl ?_
  refine j_iconst (v := (0 : Int32)) X dX11_whose_1 (by decide) ?_
  refine j_sipush (v := (511 : Int32)) X dX11_whose_2 (by decide) ?_
  obtain ⟨q1, g_q1, hf⟩ := ob_t hf
  refine j_callS X [] (c_X11_within E g_q1) rfl rfl rfl (ws' := (wX E h g μ)) rfl k_348 k_349 k_68 k_350 (⟨rfl, rfl⟩) hdS_X11_within ⟨Nat.le_of_ble_eq_true rfl, Nat.le_of_ble_eq_true rfl⟩ rfl (Nat.le_of_ble_eq_true rfl) rfl dX11_whose_5 ?_
  refine j_if_ne (tgt := 17) X dX11_whose_8 (by decide) (fun c_8 => ?_) (fun c_8 => ?_)
  · replace hf := (if_neg c_8).symm.trans hf
    refine j_aload_n X dX11_whose_17 rfl rfl ?_
    refine j_get (C := RX11) (T := TX11) (N := 10) X iX11 0 (wX_0 ..) rfl 0 (by decide) k_310 rfl rfl dX11_whose_18 ?_
    refine j_get (C := RX5) (T := TX5) (N := 8) X iX5 1 (wX_1 ..) rfl 2 (by decide) k_239 rfl rfl dX11_whose_21 ?_
    obtain ⟨q2, g_q2, hf⟩ := ob_t hf
    obtain ⟨μ3, e_μ3, hf⟩ := bd_e hf
    refine j_callV X [23, 24, 25, 26, 27, 28, 7, 8, 9, 10, 11, 12, 13, 14, 66, 67, 68, 69, 70, 71, 72, 73] 0 (c_X4_bits E (fun j => h (List.getD [23, 24, 25, 26, 27, 28, 7, 8, 9, 10, 11, 12, 13, 14, 66, 67, 68, 69, 70, 71, 72, 73] j 0)) (fun j => g (List.getD [0, 1] j 0)) g_q2) (cut_wX_wR_23_24_25_c ..) rfl rfl (ws' := (wX E h g μ3)) (by rw [e_μ3]; exact cut_wX_wR_23_24_25_w ..) (wR_0 ..) rfl k_702 k_654 k_655 k_78 k_656 (⟨rfl, rfl⟩) hdV_X4_bits ⟨Nat.le_of_ble_eq_true rfl, Nat.le_of_ble_eq_true rfl⟩ rfl (Nat.le_of_ble_eq_true rfl) rfl dX11_whose_24 ?_
    refine j_istore_n2 X dX11_whose_27 rfl (by decide) rfl ?_
    refine j_iconst (v := (0 : Int32)) X dX11_whose_28 (by decide) ?_
    refine j_istore_n3 X dX11_whose_29 rfl (by decide) rfl ?_
    refine j_iconst (v := (0 : Int32)) X dX11_whose_30 (by decide) ?_
    refine j_istore4 X dX11_whose_31 (by decide) rfl ?_
    refine j_keep [true, true, true, true, true] rfl ?_
    exact lab33 _ _ _ _ _ _ hf
  · replace hf := (if_pos c_8).symm.trans hf
    refine j_aload_n X dX11_whose_11 rfl rfl ?_
    refine j_iconst (v := (1 : Int32)) X dX11_whose_12 (by decide) ?_
    obtain ⟨q13, g_q13, hf⟩ := ob_t hf
    refine j_callV X [0, 1, 2, 3, 4, 5, 6, 7, 8, 9, 10, 11, 12, 13, 14, 15, 16, 17, 18, 19, 20, 21, 22, 23, 24, 25, 26, 27, 28, 29, 30, 31, 32, 33, 34, 35, 36, 37, 38, 39, 40, 41, 42, 43, 44, 45, 46, 47, 48, 49, 50, 51, 52, 53, 54, 55, 56, 57, 58, 59, 60, 61, 62, 63, 64, 65, 66, 67, 68, 69, 70, 71, 72, 73, 74, 75, 76, 77, 78, 79, 80, 81, 82, 83, 84] 0 (c_X11_fails E h g g_q13) (cut_wX_wX_c ..) rfl rfl (ws' := (wX E h g q13.1)) (cut_wX_wX_w ..) (wX_0 ..) rfl k_351 k_353 k_0 k_68 k_354 (⟨rfl, rfl⟩) hdV_X11_fails ⟨Nat.le_of_ble_eq_true rfl, Nat.le_of_ble_eq_true rfl⟩ rfl (Nat.le_of_ble_eq_true rfl) rfl dX11_whose_13 ?_
    obtain rfl := Option.some.inj hf
    exact j_iret X hr hlk rfl dX11_whose_16 hQ
def f_X11_isSheet (x0 : Int32) : Option Int32 := (f_X11_within x0 (0 : Int32) (3 : Int32)).bind fun q1 => ((if q1 = 0 ∨ q1 = 1 then some q1 else none))
set_option maxHeartbeats 4000000 in
set_option maxRecDepth 20000 in
theorem c_X11_isSheet (E : Ev) {x0 : Int32} {r : Int32} (hf : f_X11_isSheet x0 = some r) : Ct E yX11_isSheet cX11_isSheet 1 (some .boolean) (rmOf 1 22) [] [] [.int x0] (some (.int r)) := by
  refine ct_start RX11 0 (by decide) rfl (Nat.le_of_ble_eq_true rfl) ?_
  intro p l e s m args below meth c A Q X hr hlk hQ
  rw [f_X11_isSheet] at hf
  refine j_iload_n X dX11_isSheet_0 rfl rfl ?_
  refine j_iconst (v := (0 : Int32)) X dX11_isSheet_1 (by decide) ?_
  refine j_iconst (v := (3 : Int32)) X dX11_isSheet_2 (by decide) ?_
  obtain ⟨q1, g_q1, hf⟩ := ob_t hf
  refine j_callS X [] (c_X11_within E g_q1) rfl rfl rfl (ws' := []) rfl k_348 k_349 k_68 k_350 (⟨rfl, rfl⟩) hdS_X11_within ⟨Nat.le_of_ble_eq_true rfl, Nat.le_of_ble_eq_true rfl⟩ rfl (Nat.le_of_ble_eq_true rfl) rfl dX11_isSheet_3 ?_
  obtain ⟨c2, hf⟩ := oi_t hf
  obtain rfl := Option.some.inj hf
  exact j_iret X hr hlk (nb01 c2) dX11_isSheet_6 hQ
def f_X11_isMissing (μ : Mem) (x1 : Int32) : Option (Mem × Int32) := (if inb x1 4 = true then (if (μ 82 x1.toNatClampNeg) = 0 then some (μ, (1 : Int32)) else some (μ, (0 : Int32))) else none)
set_option maxHeartbeats 4000000 in
set_option maxRecDepth 20000 in
theorem c_X11_isMissing (E : Ev) (h : Nat → Nat) (g : Nat → Option Nat) {μ : Mem} {x1 : Int32} {r : (Mem × Int32)} (hf : f_X11_isMissing μ x1 = some r) : Ct E yX11_isMissing cX11_isMissing 2 (some .boolean) (rmOf 0 0) (wX E h g μ) (wX E h g r.1) [.ref (h 0), .int x1] (some (.int r.2)) := by
  refine ct_start RX11 0 (by decide) rfl (Nat.le_of_ble_eq_true rfl) ?_
  intro p l e s m args below meth c A Q X hr hlk hQ
  rw [f_X11_isMissing] at hf
  refine j_aload_n X dX11_isMissing_0 rfl rfl ?_
  refine j_get (C := RX11) (T := TX11) (N := 10) X iX11 0 (wX_0 ..) rfl 6 (by decide) k_316 rfl rfl dX11_isMissing_1 ?_
  refine j_iload_n X dX11_isMissing_4 rfl rfl ?_
  obtain ⟨c1, hf⟩ := oi_in hf
  refine j_iald X 82 (wX_82 ..) c1 dX11_isMissing_5 ?_
  refine j_if_ne (tgt := 13) X dX11_isMissing_6 (by decide) (fun c_6 => ?_) (fun c_6 => ?_)
  · replace hf := (if_neg c_6).symm.trans hf
    refine j_iconst (v := (0 : Int32)) X dX11_isMissing_13 (by decide) ?_
    obtain rfl := Option.some.inj hf
    exact j_iret X hr hlk rfl dX11_isMissing_14 hQ
  · replace hf := (if_pos c_6).symm.trans hf
    refine j_iconst (v := (1 : Int32)) X dX11_isMissing_9 (by decide) ?_
    refine j_goto (tgt := 14) X dX11_isMissing_10 (by decide) ?_
    obtain rfl := Option.some.inj hf
    exact j_iret X hr hlk rfl dX11_isMissing_14 hQ
def f_X11_commonDivisor_L9 : Nat → Int64 → Int64 → Int32 → Option Int64
  | 0, _, _, _ => none
  | n + 1, x4, x6, x8 => (if (128 : Int32) ≤ x8 then some (if x4 < (1 : Int64) then (1 : Int64) else x4) else (if (lg_cmp x6 (0 : Int64)) = 0 then some (if x4 < (1 : Int64) then (1 : Int64) else x4) else (if ¬ x6 = 0 then bd (x4 - x4 / x6 * x6) fun y2 => ((f_X11_commonDivisor_L9 n) x6 y2 (x8 + (1 : Int32))) else none)))
def f_X11_commonDivisor (x0 : Int64) (x2 : Int64) : Option Int64 := f_X11_commonDivisor_L9 fuel0 x0 x2 (0 : Int32)
set_option maxHeartbeats 4000000 in
set_option maxRecDepth 20000 in
theorem c_X11_commonDivisor (E : Ev) {x0 : Int64} {x2 : Int64} {r : Int64} (hf : f_X11_commonDivisor x0 x2 = some r) : Ct E yX11_commonDivisor cX11_commonDivisor 11 (some .long) (rmOf 1 23) [] [] [.long x0, .long x2] (some (.long r)) := by
  refine ct_start RX11 7 (by decide) rfl (Nat.le_of_ble_eq_true rfl) ?_
  intro p l e s m args below meth c A Q X hr hlk hQ
  have lab9 : ∀ (n : Nat) (x4 : Int64) (x6 : Int64) (x8 : Int32), f_X11_commonDivisor_L9 n x4 x6 x8 = some r → J p l e (rmOf 1 23) s m args below meth c E A 11 Q [] [none, none, none, none, some (.long x4), none, some (.long x6), none, some (.int x8), none, none] 9 [] := by
    intro n
    induction n with
    | zero => intro x4 x6 x8 hf; cases (show none = some r from hf)
    | succ n ih =>
      intro x4 x6 x8 hf
      rw [f_X11_commonDivisor_L9] at hf
      refine j_iload X dX11_commonDivisor_9 rfl ?_
      refine j_sipush (v := (128 : Int32)) X dX11_commonDivisor_11 (by decide) ?_
      refine j_icmp_ge (tgt := 45) X dX11_commonDivisor_14 (by decide) (fun c_14 => ?_) (fun c_14 => ?_)
      · replace hf := (if_pos c_14).symm.trans hf
        refine j_lconst (v := (1 : Int64)) X dX11_commonDivisor_45 (by decide) ?_
        refine j_lload X dX11_commonDivisor_46 rfl ?_
        refine j_mmaxl X k_726 k_727 k_81 k_728 (Nat.le_of_ble_eq_true rfl) (Nat.le_of_ble_eq_true rfl) dX11_commonDivisor_48 ?_
        obtain rfl := Option.some.inj hf
        exact j_lret X hr hlk dX11_commonDivisor_51 hQ
      · replace hf := (if_neg c_14).symm.trans hf
        refine j_lload X dX11_commonDivisor_17 rfl ?_
        refine j_lconst (v := (0 : Int64)) X dX11_commonDivisor_19 (by decide) ?_
        refine j_lcmp X dX11_commonDivisor_20 ?_
        refine j_if_eq (tgt := 45) X dX11_commonDivisor_21 (by decide) (fun c_21 => ?_) (fun c_21 => ?_)
        · replace hf := (if_pos c_21).symm.trans hf
          refine j_lconst (v := (1 : Int64)) X dX11_commonDivisor_45 (by decide) ?_
          refine j_lload X dX11_commonDivisor_46 rfl ?_
          refine j_mmaxl X k_726 k_727 k_81 k_728 (Nat.le_of_ble_eq_true rfl) (Nat.le_of_ble_eq_true rfl) dX11_commonDivisor_48 ?_
          obtain rfl := Option.some.inj hf
          exact j_lret X hr hlk dX11_commonDivisor_51 hQ
        · replace hf := (if_neg c_21).symm.trans hf
          refine j_lload X dX11_commonDivisor_24 rfl ?_
          refine j_lload X dX11_commonDivisor_26 rfl ?_
          obtain ⟨c1, hf⟩ := oi_t hf
          refine j_lrem X dX11_commonDivisor_28 c1 ?_
          obtain ⟨y2, e_y2, hf⟩ := bd_e hf
          refine j_topl e_y2 ?_
          refine j_lstore9 X dX11_commonDivisor_29 (by decide) rfl ?_
          refine j_lload X dX11_commonDivisor_31 rfl ?_
          refine j_lstore4 X dX11_commonDivisor_33 (by decide) rfl ?_
          refine j_lload X dX11_commonDivisor_35 rfl ?_
          refine j_lstore6 X dX11_commonDivisor_37 (by decide) rfl ?_
          refine j_iinc8 (k := (1 : Int32)) X dX11_commonDivisor_39 (by decide) (by decide) rfl ?_
          refine j_goto (tgt := 9) X dX11_commonDivisor_42 (by decide) ?_
          refine j_keep [false, false, false, false, true, false, true, false, true, false, false] rfl ?_
          exact ih _ _ _ hf
  rw [f_X11_commonDivisor] at hf
  refine j_lload_n X dX11_commonDivisor_0 rfl rfl ?_
  refine j_lstore4 X dX11_commonDivisor_1 (by decide) rfl ?_
  refine j_lload_n X dX11_commonDivisor_3 rfl rfl ?_
  refine j_lstore6 X dX11_commonDivisor_4 (by decide) rfl ?_
  refine j_iconst (v := (0 : Int32)) X dX11_commonDivisor_6 (by decide) ?_
  refine j_istore8 X dX11_commonDivisor_7 (by decide) rfl ?_
  refine j_keep [false, false, false, false, true, false, true, false, true, false, false] rfl ?_
  exact lab9 _ _ _ _ hf
def f_X11_slate_L57 : Nat → Mem → Int32 → Int32 → Int64 → Int64 → Int32 → Option (Mem × Int64)
  | 0, _, _, _, _, _, _ => none
  | n + 1, μ, x1, x2, x3, x5, x7 => (if (9 : Int32) ≤ x7 then (f_X11_commonDivisor x3 x5).bind fun q7 => ((if x2 = 0 then (if ¬ q7 = 0 then some (μ, (x3 / q7)) else none) else (if ¬ q7 = 0 then some (μ, (x5 / q7)) else none))) else (if x1 = (0 : Int32) then (if inb x7 24 = true then bd (μ 78 x7.toNatClampNeg) fun y11 => ((f_X11_within y11 (1 : Int32) (99 : Int32)).bind fun q12 => ((if q12 = 0 then (f_X11_fails μ (6 : Int32)).bind fun q15 => (some (q15.1, q15.2.toInt64)) else bd ((x3 * y11.toInt64) + x5) fun y13 => (bd (x5 * y11.toInt64) fun y14 => ((f_X11_slate_L57 n) μ x1 x2 y13 y14 (x7 + (1 : Int32))))))) else none) else (if x1 = (1 : Int32) then (if inb x7 24 = true then bd (μ 79 x7.toNatClampNeg) fun y17 => ((f_X11_within y17 (1 : Int32) (99 : Int32)).bind fun q18 => ((if q18 = 0 then (f_X11_fails μ (6 : Int32)).bind fun q21 => (some (q21.1, q21.2.toInt64)) else bd ((x3 * y17.toInt64) + x5) fun y19 => (bd (x5 * y17.toInt64) fun y20 => ((f_X11_slate_L57 n) μ x1 x2 y19 y20 (x7 + (1 : Int32))))))) else none) else (if x1 = (2 : Int32) then (if inb x7 24 = true then bd (μ 80 x7.toNatClampNeg) fun y23 => ((f_X11_within y23 (1 : Int32) (99 : Int32)).bind fun q24 => ((if q24 = 0 then (f_X11_fails μ (6 : Int32)).bind fun q27 => (some (q27.1, q27.2.toInt64)) else bd ((x3 * y23.toInt64) + x5) fun y25 => (bd (x5 * y23.toInt64) fun y26 => ((f_X11_slate_L57 n) μ x1 x2 y25 y26 (x7 + (1 : Int32))))))) else none) else (if x1 = (3 : Int32) then (if inb x7 24 = true then bd (μ 81 x7.toNatClampNeg) fun y29 => ((f_X11_within y29 (1 : Int32) (99 : Int32)).bind fun q30 => ((if q30 = 0 then (f_X11_fails μ (6 : Int32)).bind fun q33 => (some (q33.1, q33.2.toInt64)) else bd ((x3 * y29.toInt64) + x5) fun y31 => (bd (x5 * y29.toInt64) fun y32 => ((f_X11_slate_L57 n) μ x1 x2 y31 y32 (x7 + (1 : Int32))))))) else none) else none)))))
def f_X11_slate (μ : Mem) (x1 : Int32) (x2 : Int32) : Option (Mem × Int64) := (f_X11_isSheet x1).bind fun q1 => ((if q1 = 0 then (f_X11_fails μ (1 : Int32)).bind fun q2 => (some (q2.1, q2.2.toInt64)) else (f_X11_within x2 (0 : Int32) (1 : Int32)).bind fun q3 => ((if q3 = 0 then (f_X11_fails μ (1 : Int32)).bind fun q35 => (some (q35.1, q35.2.toInt64)) else (f_X11_isMissing μ x1).bind fun q4 => ((if q4.2 = 0 then (if inb x1 4 = true then (if (9 : Int32) ≤ (q4.1 83 x1.toNatClampNeg) then f_X11_slate_L57 fuel0 q4.1 x1 x2 (0 : Int64) (1 : Int64) (0 : Int32) else (f_X11_fails q4.1 (2 : Int32)).bind fun q34 => (some (q34.1, q34.2.toInt64))) else none) else (f_X11_fails q4.1 (2 : Int32)).bind fun q5 => (some (q5.1, q5.2.toInt64))))))))
set_option maxHeartbeats 4000000 in
set_option maxRecDepth 20000 in
theorem c_X11_slate (E : Ev) (h : Nat → Nat) (g : Nat → Option Nat) {μ : Mem} {x1 : Int32} {x2 : Int32} {r : (Mem × Int64)} (hf : f_X11_slate μ x1 x2 = some r) : Ct E yX11_slate cX11_slate 9 (some .long) (rmOf 2 53) (wX E h g μ) (wX E h g r.1) [.ref (h 0), .int x1, .int x2] (some (.long r.2)) := by
  refine ct_start RX11 6 (by decide) rfl (Nat.le_of_ble_eq_true rfl) ?_
  intro p l e s m args below meth c A Q X hr hlk hQ
  have lab57 : ∀ (n : Nat) (μ : Mem) (x1 : Int32) (x2 : Int32) (x3 : Int64) (x5 : Int64) (x7 : Int32), f_X11_slate_L57 n μ x1 x2 x3 x5 x7 = some r → J p l e (rmOf 2 53) s m args below meth c E A 9 Q (wX E h g μ) [some (.ref (h 0)), some (.int x1), some (.int x2), some (.long x3), none, some (.long x5), none, some (.int x7), none] 57 [] := by
    intro n
    induction n with
    | zero => intro μ x1 x2 x3 x5 x7 hf; cases (show none = some r from hf)
    | succ n ih =>
      intro μ x1 x2 x3 x5 x7 hf
      rw [f_X11_slate_L57] at hf
      refine j_iload X dX11_slate_57 rfl ?_
      refine j_bipush (v := (9 : Int32)) X dX11_slate_59 (by decide) ?_
      refine j_icmp_ge (tgt := 117) X dX11_slate_61 (by decide) (fun c_61 => ?_) (fun c_61 => ?_)
      · replace hf := (if_pos c_61).symm.trans hf
        refine j_lload_n X dX11_slate_117 rfl rfl ?_
        refine j_lload X dX11_slate_118 rfl ?_
        obtain ⟨q7, g_q7, hf⟩ := ob_t hf
        refine j_callS X [] (c_X11_commonDivisor E g_q7) rfl rfl rfl (ws' := (wX E h g μ)) rfl k_723 k_724 k_68 k_725 (⟨rfl, rfl⟩) hdS_X11_commonDivisor ⟨Nat.le_of_ble_eq_true rfl, Nat.le_of_ble_eq_true rfl⟩ rfl (Nat.le_of_ble_eq_true rfl) rfl dX11_slate_120 ?_
        refine j_lstore7 X dX11_slate_123 (by decide) rfl ?_
        refine j_iload_n X dX11_slate_125 rfl rfl ?_
        refine j_if_ne (tgt := 136) X dX11_slate_126 (by decide) (fun c_126 => ?_) (fun c_126 => ?_)
        · replace hf := (if_neg c_126).symm.trans hf
          refine j_lload X dX11_slate_136 rfl ?_
          refine j_lload X dX11_slate_138 rfl ?_
          obtain ⟨c8, hf⟩ := oi_t hf
          refine j_ldiv X dX11_slate_140 c8 ?_
          obtain rfl := Option.some.inj hf
          exact j_lret X hr hlk dX11_slate_141 hQ
        · replace hf := (if_pos c_126).symm.trans hf
          refine j_lload_n X dX11_slate_129 rfl rfl ?_
          refine j_lload X dX11_slate_130 rfl ?_
          obtain ⟨c9, hf⟩ := oi_t hf
          refine j_ldiv X dX11_slate_132 c9 ?_
          refine j_goto (tgt := 141) X dX11_slate_133 (by decide) ?_
          obtain rfl := Option.some.inj hf
          exact j_lret X hr hlk dX11_slate_141 hQ
      · replace hf := (if_neg c_61).symm.trans hf
        refine j_aload_n X dX11_slate_64 rfl rfl ?_
        refine j_get (C := RX11) (T := TX11) (N := 10) X iX11 0 (wX_0 ..) rfl 5 (by decide) k_315 rfl rfl dX11_slate_65 ?_
        refine j_iload_n X dX11_slate_68 rfl rfl ?_
        by_cases n_69_0 : x1 = (0 : Int32)
        · replace hf := (if_pos n_69_0).symm.trans hf
          refine j_aald4 X 77 (wX_77 ..) (b := h 78) (by rw [n_69_0]; unfold vp_in; decide) (by rw [n_69_0]; rfl) dX11_slate_69 ?_
          refine j_iload X dX11_slate_70 rfl ?_
          obtain ⟨c10, hf⟩ := oi_in hf
          refine j_iald X 78 (wX_78 ..) c10 dX11_slate_72 ?_
          obtain ⟨y11, e_y11, hf⟩ := bd_e hf
          refine j_top e_y11 ?_
          refine j_istore8 X dX11_slate_73 (by decide) rfl ?_
          refine j_iload X dX11_slate_75 rfl ?_
          refine j_iconst (v := (1 : Int32)) X dX11_slate_77 (by decide) ?_
          refine j_bipush (v := (99 : Int32)) X dX11_slate_78 (by decide) ?_
          obtain ⟨q12, g_q12, hf⟩ := ob_t hf
          refine j_callS X [] (c_X11_within E g_q12) rfl rfl rfl (ws' := (wX E h g μ)) rfl k_348 k_349 k_68 k_350 (⟨rfl, rfl⟩) hdS_X11_within ⟨Nat.le_of_ble_eq_true rfl, Nat.le_of_ble_eq_true rfl⟩ rfl (Nat.le_of_ble_eq_true rfl) rfl dX11_slate_80 ?_
          refine j_if_ne (tgt := 94) X dX11_slate_83 (by decide) (fun c_83 => ?_) (fun c_83 => ?_)
          · replace hf := (if_neg c_83).symm.trans hf
            refine j_lload_n X dX11_slate_94 rfl rfl ?_
            refine j_iload X dX11_slate_95 rfl ?_
            refine j_i2l X dX11_slate_97 ?_
            refine j_lmul X dX11_slate_98 ?_
            refine j_lload X dX11_slate_99 rfl ?_
            refine j_ladd X dX11_slate_101 ?_
            obtain ⟨y13, e_y13, hf⟩ := bd_e hf
            refine j_topl e_y13 ?_
            refine j_lstore_n3 X dX11_slate_102 rfl (by decide) rfl ?_
            refine j_lload X dX11_slate_103 rfl ?_
            refine j_iload X dX11_slate_105 rfl ?_
            refine j_i2l X dX11_slate_107 ?_
            refine j_lmul X dX11_slate_108 ?_
            obtain ⟨y14, e_y14, hf⟩ := bd_e hf
            refine j_topl e_y14 ?_
            refine j_lstore5 X dX11_slate_109 (by decide) rfl ?_
            refine j_iinc7 (k := (1 : Int32)) X dX11_slate_111 (by decide) (by decide) rfl ?_
            refine j_goto (tgt := 57) X dX11_slate_114 (by decide) ?_
            refine j_keep [true, true, true, true, false, true, false, true, false] rfl ?_
            exact ih _ _ _ _ _ _ hf
          · replace hf := (if_pos c_83).symm.trans hf
            refine j_aload_n X dX11_slate_86 rfl rfl ?_
            refine j_bipush (v := (6 : Int32)) X dX11_slate_87 (by decide) ?_
            obtain ⟨q15, g_q15, hf⟩ := ob_t hf
            refine j_callV X [0, 1, 2, 3, 4, 5, 6, 7, 8, 9, 10, 11, 12, 13, 14, 15, 16, 17, 18, 19, 20, 21, 22, 23, 24, 25, 26, 27, 28, 29, 30, 31, 32, 33, 34, 35, 36, 37, 38, 39, 40, 41, 42, 43, 44, 45, 46, 47, 48, 49, 50, 51, 52, 53, 54, 55, 56, 57, 58, 59, 60, 61, 62, 63, 64, 65, 66, 67, 68, 69, 70, 71, 72, 73, 74, 75, 76, 77, 78, 79, 80, 81, 82, 83, 84] 0 (c_X11_fails E h g g_q15) (cut_wX_wX_c ..) rfl rfl (ws' := (wX E h g q15.1)) (cut_wX_wX_w ..) (wX_0 ..) rfl k_351 k_353 k_0 k_68 k_354 (⟨rfl, rfl⟩) hdV_X11_fails ⟨Nat.le_of_ble_eq_true rfl, Nat.le_of_ble_eq_true rfl⟩ rfl (Nat.le_of_ble_eq_true rfl) rfl dX11_slate_89 ?_
            refine j_i2l X dX11_slate_92 ?_
            obtain rfl := Option.some.inj hf
            exact j_lret X hr hlk dX11_slate_93 hQ
        · replace hf := (if_neg n_69_0).symm.trans hf
          by_cases n_69_1 : x1 = (1 : Int32)
          · replace hf := (if_pos n_69_1).symm.trans hf
            refine j_aald4 X 77 (wX_77 ..) (b := h 79) (by rw [n_69_1]; unfold vp_in; decide) (by rw [n_69_1]; rfl) dX11_slate_69 ?_
            refine j_iload X dX11_slate_70 rfl ?_
            obtain ⟨c16, hf⟩ := oi_in hf
            refine j_iald X 79 (wX_79 ..) c16 dX11_slate_72 ?_
            obtain ⟨y17, e_y17, hf⟩ := bd_e hf
            refine j_top e_y17 ?_
            refine j_istore8 X dX11_slate_73 (by decide) rfl ?_
            refine j_iload X dX11_slate_75 rfl ?_
            refine j_iconst (v := (1 : Int32)) X dX11_slate_77 (by decide) ?_
            refine j_bipush (v := (99 : Int32)) X dX11_slate_78 (by decide) ?_
            obtain ⟨q18, g_q18, hf⟩ := ob_t hf
            refine j_callS X [] (c_X11_within E g_q18) rfl rfl rfl (ws' := (wX E h g μ)) rfl k_348 k_349 k_68 k_350 (⟨rfl, rfl⟩) hdS_X11_within ⟨Nat.le_of_ble_eq_true rfl, Nat.le_of_ble_eq_true rfl⟩ rfl (Nat.le_of_ble_eq_true rfl) rfl dX11_slate_80 ?_
            refine j_if_ne (tgt := 94) X dX11_slate_83 (by decide) (fun c_83 => ?_) (fun c_83 => ?_)
            · replace hf := (if_neg c_83).symm.trans hf
              refine j_lload_n X dX11_slate_94 rfl rfl ?_
              refine j_iload X dX11_slate_95 rfl ?_
              refine j_i2l X dX11_slate_97 ?_
              refine j_lmul X dX11_slate_98 ?_
              refine j_lload X dX11_slate_99 rfl ?_
              refine j_ladd X dX11_slate_101 ?_
              obtain ⟨y19, e_y19, hf⟩ := bd_e hf
              refine j_topl e_y19 ?_
              refine j_lstore_n3 X dX11_slate_102 rfl (by decide) rfl ?_
              refine j_lload X dX11_slate_103 rfl ?_
              refine j_iload X dX11_slate_105 rfl ?_
              refine j_i2l X dX11_slate_107 ?_
              refine j_lmul X dX11_slate_108 ?_
              obtain ⟨y20, e_y20, hf⟩ := bd_e hf
              refine j_topl e_y20 ?_
              refine j_lstore5 X dX11_slate_109 (by decide) rfl ?_
              refine j_iinc7 (k := (1 : Int32)) X dX11_slate_111 (by decide) (by decide) rfl ?_
              refine j_goto (tgt := 57) X dX11_slate_114 (by decide) ?_
              refine j_keep [true, true, true, true, false, true, false, true, false] rfl ?_
              exact ih _ _ _ _ _ _ hf
            · replace hf := (if_pos c_83).symm.trans hf
              refine j_aload_n X dX11_slate_86 rfl rfl ?_
              refine j_bipush (v := (6 : Int32)) X dX11_slate_87 (by decide) ?_
              obtain ⟨q21, g_q21, hf⟩ := ob_t hf
              refine j_callV X [0, 1, 2, 3, 4, 5, 6, 7, 8, 9, 10, 11, 12, 13, 14, 15, 16, 17, 18, 19, 20, 21, 22, 23, 24, 25, 26, 27, 28, 29, 30, 31, 32, 33, 34, 35, 36, 37, 38, 39, 40, 41, 42, 43, 44, 45, 46, 47, 48, 49, 50, 51, 52, 53, 54, 55, 56, 57, 58, 59, 60, 61, 62, 63, 64, 65, 66, 67, 68, 69, 70, 71, 72, 73, 74, 75, 76, 77, 78, 79, 80, 81, 82, 83, 84] 0 (c_X11_fails E h g g_q21) (cut_wX_wX_c ..) rfl rfl (ws' := (wX E h g q21.1)) (cut_wX_wX_w ..) (wX_0 ..) rfl k_351 k_353 k_0 k_68 k_354 (⟨rfl, rfl⟩) hdV_X11_fails ⟨Nat.le_of_ble_eq_true rfl, Nat.le_of_ble_eq_true rfl⟩ rfl (Nat.le_of_ble_eq_true rfl) rfl dX11_slate_89 ?_
              refine j_i2l X dX11_slate_92 ?_
              obtain rfl := Option.some.inj hf
              exact j_lret X hr hlk dX11_slate_93 hQ
          · replace hf := (if_neg n_69_1).symm.trans hf
            by_cases n_69_2 : x1 = (2 : Int32)
            · replace hf := (if_pos n_69_2).symm.trans hf
              refine j_aald4 X 77 (wX_77 ..) (b := h 80) (by rw [n_69_2]; unfold vp_in; decide) (by rw [n_69_2]; rfl) dX11_slate_69 ?_
              refine j_iload X dX11_slate_70 rfl ?_
              obtain ⟨c22, hf⟩ := oi_in hf
              refine j_iald X 80 (wX_80 ..) c22 dX11_slate_72 ?_
              obtain ⟨y23, e_y23, hf⟩ := bd_e hf
              refine j_top e_y23 ?_
              refine j_istore8 X dX11_slate_73 (by decide) rfl ?_
              refine j_iload X dX11_slate_75 rfl ?_
              refine j_iconst (v := (1 : Int32)) X dX11_slate_77 (by decide) ?_
              refine j_bipush (v := (99 : Int32)) X dX11_slate_78 (by decide) ?_
              obtain ⟨q24, g_q24, hf⟩ := ob_t hf
              refine j_callS X [] (c_X11_within E g_q24) rfl rfl rfl (ws' := (wX E h g μ)) rfl k_348 k_349 k_68 k_350 (⟨rfl, rfl⟩) hdS_X11_within ⟨Nat.le_of_ble_eq_true rfl, Nat.le_of_ble_eq_true rfl⟩ rfl (Nat.le_of_ble_eq_true rfl) rfl dX11_slate_80 ?_
              refine j_if_ne (tgt := 94) X dX11_slate_83 (by decide) (fun c_83 => ?_) (fun c_83 => ?_)
              · replace hf := (if_neg c_83).symm.trans hf
                refine j_lload_n X dX11_slate_94 rfl rfl ?_
                refine j_iload X dX11_slate_95 rfl ?_
                refine j_i2l X dX11_slate_97 ?_
                refine j_lmul X dX11_slate_98 ?_
                refine j_lload X dX11_slate_99 rfl ?_
                refine j_ladd X dX11_slate_101 ?_
                obtain ⟨y25, e_y25, hf⟩ := bd_e hf
                refine j_topl e_y25 ?_
                refine j_lstore_n3 X dX11_slate_102 rfl (by decide) rfl ?_
                refine j_lload X dX11_slate_103 rfl ?_
                refine j_iload X dX11_slate_105 rfl ?_
                refine j_i2l X dX11_slate_107 ?_
                refine j_lmul X dX11_slate_108 ?_
                obtain ⟨y26, e_y26, hf⟩ := bd_e hf
                refine j_topl e_y26 ?_
                refine j_lstore5 X dX11_slate_109 (by decide) rfl ?_
                refine j_iinc7 (k := (1 : Int32)) X dX11_slate_111 (by decide) (by decide) rfl ?_
                refine j_goto (tgt := 57) X dX11_slate_114 (by decide) ?_
                refine j_keep [true, true, true, true, false, true, false, true, false] rfl ?_
                exact ih _ _ _ _ _ _ hf
              · replace hf := (if_pos c_83).symm.trans hf
                refine j_aload_n X dX11_slate_86 rfl rfl ?_
                refine j_bipush (v := (6 : Int32)) X dX11_slate_87 (by decide) ?_
                obtain ⟨q27, g_q27, hf⟩ := ob_t hf
                refine j_callV X [0, 1, 2, 3, 4, 5, 6, 7, 8, 9, 10, 11, 12, 13, 14, 15, 16, 17, 18, 19, 20, 21, 22, 23, 24, 25, 26, 27, 28, 29, 30, 31, 32, 33, 34, 35, 36, 37, 38, 39, 40, 41, 42, 43, 44, 45, 46, 47, 48, 49, 50, 51, 52, 53, 54, 55, 56, 57, 58, 59, 60, 61, 62, 63, 64, 65, 66, 67, 68, 69, 70, 71, 72, 73, 74, 75, 76, 77, 78, 79, 80, 81, 82, 83, 84] 0 (c_X11_fails E h g g_q27) (cut_wX_wX_c ..) rfl rfl (ws' := (wX E h g q27.1)) (cut_wX_wX_w ..) (wX_0 ..) rfl k_351 k_353 k_0 k_68 k_354 (⟨rfl, rfl⟩) hdV_X11_fails ⟨Nat.le_of_ble_eq_true rfl, Nat.le_of_ble_eq_true rfl⟩ rfl (Nat.le_of_ble_eq_true rfl) rfl dX11_slate_89 ?_
                refine j_i2l X dX11_slate_92 ?_
                obtain rfl := Option.some.inj hf
                exact j_lret X hr hlk dX11_slate_93 hQ
            · replace hf := (if_neg n_69_2).symm.trans hf
              by_cases n_69_3 : x1 = (3 : Int32)
              · replace hf := (if_pos n_69_3).symm.trans hf
                refine j_aald4 X 77 (wX_77 ..) (b := h 81) (by rw [n_69_3]; unfold vp_in; decide) (by rw [n_69_3]; rfl) dX11_slate_69 ?_
                refine j_iload X dX11_slate_70 rfl ?_
                obtain ⟨c28, hf⟩ := oi_in hf
                refine j_iald X 81 (wX_81 ..) c28 dX11_slate_72 ?_
                obtain ⟨y29, e_y29, hf⟩ := bd_e hf
                refine j_top e_y29 ?_
                refine j_istore8 X dX11_slate_73 (by decide) rfl ?_
                refine j_iload X dX11_slate_75 rfl ?_
                refine j_iconst (v := (1 : Int32)) X dX11_slate_77 (by decide) ?_
                refine j_bipush (v := (99 : Int32)) X dX11_slate_78 (by decide) ?_
                obtain ⟨q30, g_q30, hf⟩ := ob_t hf
                refine j_callS X [] (c_X11_within E g_q30) rfl rfl rfl (ws' := (wX E h g μ)) rfl k_348 k_349 k_68 k_350 (⟨rfl, rfl⟩) hdS_X11_within ⟨Nat.le_of_ble_eq_true rfl, Nat.le_of_ble_eq_true rfl⟩ rfl (Nat.le_of_ble_eq_true rfl) rfl dX11_slate_80 ?_
                refine j_if_ne (tgt := 94) X dX11_slate_83 (by decide) (fun c_83 => ?_) (fun c_83 => ?_)
                · replace hf := (if_neg c_83).symm.trans hf
                  refine j_lload_n X dX11_slate_94 rfl rfl ?_
                  refine j_iload X dX11_slate_95 rfl ?_
                  refine j_i2l X dX11_slate_97 ?_
                  refine j_lmul X dX11_slate_98 ?_
                  refine j_lload X dX11_slate_99 rfl ?_
                  refine j_ladd X dX11_slate_101 ?_
                  obtain ⟨y31, e_y31, hf⟩ := bd_e hf
                  refine j_topl e_y31 ?_
                  refine j_lstore_n3 X dX11_slate_102 rfl (by decide) rfl ?_
                  refine j_lload X dX11_slate_103 rfl ?_
                  refine j_iload X dX11_slate_105 rfl ?_
                  refine j_i2l X dX11_slate_107 ?_
                  refine j_lmul X dX11_slate_108 ?_
                  obtain ⟨y32, e_y32, hf⟩ := bd_e hf
                  refine j_topl e_y32 ?_
                  refine j_lstore5 X dX11_slate_109 (by decide) rfl ?_
                  refine j_iinc7 (k := (1 : Int32)) X dX11_slate_111 (by decide) (by decide) rfl ?_
                  refine j_goto (tgt := 57) X dX11_slate_114 (by decide) ?_
                  refine j_keep [true, true, true, true, false, true, false, true, false] rfl ?_
                  exact ih _ _ _ _ _ _ hf
                · replace hf := (if_pos c_83).symm.trans hf
                  refine j_aload_n X dX11_slate_86 rfl rfl ?_
                  refine j_bipush (v := (6 : Int32)) X dX11_slate_87 (by decide) ?_
                  obtain ⟨q33, g_q33, hf⟩ := ob_t hf
                  refine j_callV X [0, 1, 2, 3, 4, 5, 6, 7, 8, 9, 10, 11, 12, 13, 14, 15, 16, 17, 18, 19, 20, 21, 22, 23, 24, 25, 26, 27, 28, 29, 30, 31, 32, 33, 34, 35, 36, 37, 38, 39, 40, 41, 42, 43, 44, 45, 46, 47, 48, 49, 50, 51, 52, 53, 54, 55, 56, 57, 58, 59, 60, 61, 62, 63, 64, 65, 66, 67, 68, 69, 70, 71, 72, 73, 74, 75, 76, 77, 78, 79, 80, 81, 82, 83, 84] 0 (c_X11_fails E h g g_q33) (cut_wX_wX_c ..) rfl rfl (ws' := (wX E h g q33.1)) (cut_wX_wX_w ..) (wX_0 ..) rfl k_351 k_353 k_0 k_68 k_354 (⟨rfl, rfl⟩) hdV_X11_fails ⟨Nat.le_of_ble_eq_true rfl, Nat.le_of_ble_eq_true rfl⟩ rfl (Nat.le_of_ble_eq_true rfl) rfl dX11_slate_89 ?_
                  refine j_i2l X dX11_slate_92 ?_
                  obtain rfl := Option.some.inj hf
                  exact j_lret X hr hlk dX11_slate_93 hQ
              · replace hf := (if_neg n_69_3).symm.trans hf
                cases hf
  rw [f_X11_slate] at hf
  refine j_iload_n X dX11_slate_0 rfl rfl ?_
  obtain ⟨q1, g_q1, hf⟩ := ob_t hf
  refine j_callS X [] (c_X11_isSheet E g_q1) rfl rfl rfl (ws' := (wX E h g μ)) rfl k_716 k_717 k_68 k_718 (⟨rfl, rfl⟩) hdS_X11_isSheet ⟨Nat.le_of_ble_eq_true rfl, Nat.le_of_ble_eq_true rfl⟩ rfl (Nat.le_of_ble_eq_true rfl) rfl dX11_slate_1 ?_
  refine j_if_eq (tgt := 16) X dX11_slate_4 (by decide) (fun c_4 => ?_) (fun c_4 => ?_)
  · replace hf := (if_pos c_4).symm.trans hf
    refine j_aload_n X dX11_slate_16 rfl rfl ?_
    refine j_iconst (v := (1 : Int32)) X dX11_slate_17 (by decide) ?_
    obtain ⟨q2, g_q2, hf⟩ := ob_t hf
    refine j_callV X [0, 1, 2, 3, 4, 5, 6, 7, 8, 9, 10, 11, 12, 13, 14, 15, 16, 17, 18, 19, 20, 21, 22, 23, 24, 25, 26, 27, 28, 29, 30, 31, 32, 33, 34, 35, 36, 37, 38, 39, 40, 41, 42, 43, 44, 45, 46, 47, 48, 49, 50, 51, 52, 53, 54, 55, 56, 57, 58, 59, 60, 61, 62, 63, 64, 65, 66, 67, 68, 69, 70, 71, 72, 73, 74, 75, 76, 77, 78, 79, 80, 81, 82, 83, 84] 0 (c_X11_fails E h g g_q2) (cut_wX_wX_c ..) rfl rfl (ws' := (wX E h g q2.1)) (cut_wX_wX_w ..) (wX_0 ..) rfl k_351 k_353 k_0 k_68 k_354 (⟨rfl, rfl⟩) hdV_X11_fails ⟨Nat.le_of_ble_eq_true rfl, Nat.le_of_ble_eq_true rfl⟩ rfl (Nat.le_of_ble_eq_true rfl) rfl dX11_slate_18 ?_
    refine j_i2l X dX11_slate_21 ?_
    obtain rfl := Option.some.inj hf
    exact j_lret X hr hlk dX11_slate_22 hQ
  · replace hf := (if_neg c_4).symm.trans hf
    refine j_iload_n X dX11_slate_7 rfl rfl ?_
    refine j_iconst (v := (0 : Int32)) X dX11_slate_8 (by decide) ?_
    refine j_iconst (v := (1 : Int32)) X dX11_slate_9 (by decide) ?_
    obtain ⟨q3, g_q3, hf⟩ := ob_t hf
    refine j_callS X [] (c_X11_within E g_q3) rfl rfl rfl (ws' := (wX E h g μ)) rfl k_348 k_349 k_68 k_350 (⟨rfl, rfl⟩) hdS_X11_within ⟨Nat.le_of_ble_eq_true rfl, Nat.le_of_ble_eq_true rfl⟩ rfl (Nat.le_of_ble_eq_true rfl) rfl dX11_slate_10 ?_
    refine j_if_ne (tgt := 23) X dX11_slate_13 (by decide) (fun c_13 => ?_) (fun c_13 => ?_)
    · replace hf := (if_neg c_13).symm.trans hf
      refine j_aload_n X dX11_slate_23 rfl rfl ?_
      refine j_iload_n X dX11_slate_24 rfl rfl ?_
      obtain ⟨q4, g_q4, hf⟩ := ob_t hf
      refine j_callV X [0, 1, 2, 3, 4, 5, 6, 7, 8, 9, 10, 11, 12, 13, 14, 15, 16, 17, 18, 19, 20, 21, 22, 23, 24, 25, 26, 27, 28, 29, 30, 31, 32, 33, 34, 35, 36, 37, 38, 39, 40, 41, 42, 43, 44, 45, 46, 47, 48, 49, 50, 51, 52, 53, 54, 55, 56, 57, 58, 59, 60, 61, 62, 63, 64, 65, 66, 67, 68, 69, 70, 71, 72, 73, 74, 75, 76, 77, 78, 79, 80, 81, 82, 83, 84] 0 (c_X11_isMissing E h g g_q4) (cut_wX_wX_c ..) rfl rfl (ws' := (wX E h g q4.1)) (cut_wX_wX_w ..) (wX_0 ..) rfl k_719 k_721 k_21 k_68 k_722 (⟨rfl, rfl⟩) hdV_X11_isMissing ⟨Nat.le_of_ble_eq_true rfl, Nat.le_of_ble_eq_true rfl⟩ rfl (Nat.le_of_ble_eq_true rfl) rfl dX11_slate_25 ?_
      refine j_if_ne (tgt := 42) X dX11_slate_28 (by decide) (fun c_28 => ?_) (fun c_28 => ?_)
      · replace hf := (if_neg c_28).symm.trans hf
        refine j_aload_n X dX11_slate_42 rfl rfl ?_
        refine j_iconst (v := (2 : Int32)) X dX11_slate_43 (by decide) ?_
        obtain ⟨q5, g_q5, hf⟩ := ob_t hf
        refine j_callV X [0, 1, 2, 3, 4, 5, 6, 7, 8, 9, 10, 11, 12, 13, 14, 15, 16, 17, 18, 19, 20, 21, 22, 23, 24, 25, 26, 27, 28, 29, 30, 31, 32, 33, 34, 35, 36, 37, 38, 39, 40, 41, 42, 43, 44, 45, 46, 47, 48, 49, 50, 51, 52, 53, 54, 55, 56, 57, 58, 59, 60, 61, 62, 63, 64, 65, 66, 67, 68, 69, 70, 71, 72, 73, 74, 75, 76, 77, 78, 79, 80, 81, 82, 83, 84] 0 (c_X11_fails E h g g_q5) (cut_wX_wX_c ..) rfl rfl (ws' := (wX E h g q5.1)) (cut_wX_wX_w ..) (wX_0 ..) rfl k_351 k_353 k_0 k_68 k_354 (⟨rfl, rfl⟩) hdV_X11_fails ⟨Nat.le_of_ble_eq_true rfl, Nat.le_of_ble_eq_true rfl⟩ rfl (Nat.le_of_ble_eq_true rfl) rfl dX11_slate_44 ?_
        refine j_i2l X dX11_slate_47 ?_
        obtain rfl := Option.some.inj hf
        exact j_lret X hr hlk dX11_slate_48 hQ
      · replace hf := (if_pos c_28).symm.trans hf
        refine j_aload_n X dX11_slate_31 rfl rfl ?_
        refine j_get (C := RX11) (T := TX11) (N := 10) X iX11 0 (wX_0 ..) rfl 7 (by decide) k_317 rfl rfl dX11_slate_32 ?_
        refine j_iload_n X dX11_slate_35 rfl rfl ?_
        obtain ⟨c6, hf⟩ := oi_in hf
        refine j_iald X 83 (wX_83 ..) c6 dX11_slate_36 ?_
        refine j_bipush (v := (9 : Int32)) X dX11_slate_37 (by decide) ?_
        refine j_icmp_ge (tgt := 49) X dX11_slate_39 (by decide) (fun c_39 => ?_) (fun c_39 => ?_)
        · replace hf := (if_pos c_39).symm.trans hf
          refine j_lconst (v := (0 : Int64)) X dX11_slate_49 (by decide) ?_
          refine j_lstore_n3 X dX11_slate_50 rfl (by decide) rfl ?_
          refine j_lconst (v := (1 : Int64)) X dX11_slate_51 (by decide) ?_
          refine j_lstore5 X dX11_slate_52 (by decide) rfl ?_
          refine j_iconst (v := (0 : Int32)) X dX11_slate_54 (by decide) ?_
          refine j_istore7 X dX11_slate_55 (by decide) rfl ?_
          refine j_keep [true, true, true, true, false, true, false, true, false] rfl ?_
          exact lab57 _ _ _ _ _ _ _ hf
        · replace hf := (if_neg c_39).symm.trans hf
          refine j_aload_n X dX11_slate_42 rfl rfl ?_
          refine j_iconst (v := (2 : Int32)) X dX11_slate_43 (by decide) ?_
          obtain ⟨q34, g_q34, hf⟩ := ob_t hf
          refine j_callV X [0, 1, 2, 3, 4, 5, 6, 7, 8, 9, 10, 11, 12, 13, 14, 15, 16, 17, 18, 19, 20, 21, 22, 23, 24, 25, 26, 27, 28, 29, 30, 31, 32, 33, 34, 35, 36, 37, 38, 39, 40, 41, 42, 43, 44, 45, 46, 47, 48, 49, 50, 51, 52, 53, 54, 55, 56, 57, 58, 59, 60, 61, 62, 63, 64, 65, 66, 67, 68, 69, 70, 71, 72, 73, 74, 75, 76, 77, 78, 79, 80, 81, 82, 83, 84] 0 (c_X11_fails E h g g_q34) (cut_wX_wX_c ..) rfl rfl (ws' := (wX E h g q34.1)) (cut_wX_wX_w ..) (wX_0 ..) rfl k_351 k_353 k_0 k_68 k_354 (⟨rfl, rfl⟩) hdV_X11_fails ⟨Nat.le_of_ble_eq_true rfl, Nat.le_of_ble_eq_true rfl⟩ rfl (Nat.le_of_ble_eq_true rfl) rfl dX11_slate_44 ?_
          refine j_i2l X dX11_slate_47 ?_
          obtain rfl := Option.some.inj hf
          exact j_lret X hr hlk dX11_slate_48 hQ
    · replace hf := (if_pos c_13).symm.trans hf
      refine j_aload_n X dX11_slate_16 rfl rfl ?_
      refine j_iconst (v := (1 : Int32)) X dX11_slate_17 (by decide) ?_
      obtain ⟨q35, g_q35, hf⟩ := ob_t hf
      refine j_callV X [0, 1, 2, 3, 4, 5, 6, 7, 8, 9, 10, 11, 12, 13, 14, 15, 16, 17, 18, 19, 20, 21, 22, 23, 24, 25, 26, 27, 28, 29, 30, 31, 32, 33, 34, 35, 36, 37, 38, 39, 40, 41, 42, 43, 44, 45, 46, 47, 48, 49, 50, 51, 52, 53, 54, 55, 56, 57, 58, 59, 60, 61, 62, 63, 64, 65, 66, 67, 68, 69, 70, 71, 72, 73, 74, 75, 76, 77, 78, 79, 80, 81, 82, 83, 84] 0 (c_X11_fails E h g g_q35) (cut_wX_wX_c ..) rfl rfl (ws' := (wX E h g q35.1)) (cut_wX_wX_w ..) (wX_0 ..) rfl k_351 k_353 k_0 k_68 k_354 (⟨rfl, rfl⟩) hdV_X11_fails ⟨Nat.le_of_ble_eq_true rfl, Nat.le_of_ble_eq_true rfl⟩ rfl (Nat.le_of_ble_eq_true rfl) rfl dX11_slate_18 ?_
      refine j_i2l X dX11_slate_21 ?_
      obtain rfl := Option.some.inj hf
      exact j_lret X hr hlk dX11_slate_22 hQ
def f_X6_starts (μ : Mem) (x1 : Int32) (x2 : Int32) : Option Mem := bd (upA μ 0 (upd (μ 0) 0 x1)) fun μ1 => (bd (upA μ1 0 (upd (μ1 0) 1 x2)) fun μ2 => (bd (upA μ2 0 (upd (μ2 0) 2 (0 : Int32))) fun μ3 => (bd (upA μ3 0 (upd (μ3 0) 6 (0 : Int32))) fun μ4 => (some μ4))))
set_option maxHeartbeats 4000000 in
set_option maxRecDepth 20000 in
theorem c_X6_starts (E : Ev) (h : Nat → Nat) (g : Nat → Option Nat) {μ : Mem} {x1 : Int32} {x2 : Int32} {r : Mem} (hf : f_X6_starts μ x1 x2 = some r) : Ct E yX6_starts cX6_starts 3 none (rmOf 0 0) (wV E h g μ) (wV E h g r) [.ref (h 0), .int x1, .int x2] none := by
  refine ct_start RX6 0 (by decide) rfl (Nat.le_of_ble_eq_true rfl) ?_
  intro p l e s m args below meth c A Q X hr hlk hQ
  rw [f_X6_starts] at hf
  refine j_aload_n X dX6_starts_0 rfl rfl ?_
  refine j_iload_n X dX6_starts_1 rfl rfl ?_
  obtain ⟨μ1, e_μ1, hf⟩ := bd_e hf
  refine j_put (C := RX6) (T := TX6) (N := 7) X iX6 0 (wV_0 ..) rfl 0 (by decide) k_277 rfl tyX6 tyX6_ok nmX6 rfl (ty := .int) (by decide +kernel) rfl rfl (Nat.le_of_ble_eq_true rfl) dX6_starts_2 (ws' := (wV E h g μ1)) (by rw [e_μ1]; exact wV_f0_0 ..) ?_
  refine j_aload_n X dX6_starts_5 rfl rfl ?_
  refine j_iload_n X dX6_starts_6 rfl rfl ?_
  obtain ⟨μ2, e_μ2, hf⟩ := bd_e hf
  refine j_put (C := RX6) (T := TX6) (N := 7) X iX6 0 (wV_0 ..) rfl 1 (by decide) k_280 rfl tyX6 tyX6_ok nmX6 rfl (ty := .int) (by decide +kernel) rfl rfl (Nat.le_of_ble_eq_true rfl) dX6_starts_7 (ws' := (wV E h g μ2)) (by rw [e_μ2]; exact wV_f0_1 ..) ?_
  refine j_aload_n X dX6_starts_10 rfl rfl ?_
  refine j_iconst (v := (0 : Int32)) X dX6_starts_11 (by decide) ?_
  obtain ⟨μ3, e_μ3, hf⟩ := bd_e hf
  refine j_put (C := RX6) (T := TX6) (N := 7) X iX6 0 (wV_0 ..) rfl 2 (by decide) k_283 rfl tyX6 tyX6_ok nmX6 rfl (ty := .boolean) (by decide +kernel) rfl rfl (Nat.le_of_ble_eq_true rfl) dX6_starts_12 (ws' := (wV E h g μ3)) (by rw [e_μ3]; exact wV_f0_2 ..) ?_
  refine j_aload_n X dX6_starts_15 rfl rfl ?_
  refine j_iconst (v := (0 : Int32)) X dX6_starts_16 (by decide) ?_
  obtain ⟨μ4, e_μ4, hf⟩ := bd_e hf
  refine j_put (C := RX6) (T := TX6) (N := 7) X iX6 0 (wV_0 ..) rfl 6 (by decide) k_292 rfl tyX6 tyX6_ok nmX6 rfl (ty := .int) (by decide +kernel) rfl rfl (Nat.le_of_ble_eq_true rfl) dX6_starts_17 (ws' := (wV E h g μ4)) (by rw [e_μ4]; exact wV_f0_6 ..) ?_
  obtain rfl := Option.some.inj hf
  exact j_vret X hr hlk dX6_starts_20 hQ
theorem cut_wX_wV_74_75_76_c (E : Ev) (h : Nat → Nat) (g : Nat → Option Nat) (μ : Mem) : ([74, 75, 76, 67, 68, 69, 70, 71, 72, 73] : List Nat).map (fun i => (wX E h g μ)[i]?) = (wV E (fun j => h (List.getD [74, 75, 76, 67, 68, 69, 70, 71, 72, 73] j 0)) (fun j => g (List.getD ([] : List Nat) j 0)) (sub [74, 75, 76, 67, 68, 69, 70, 71, 72, 73] μ)).map some := rfl
theorem cut_wX_wV_74_75_76_w (E : Ev) (h : Nat → Nat) (g : Nat → Option Nat) (μ : Mem) (ν : Mem) : putW (wX E h g μ) [74, 75, 76, 67, 68, 69, 70, 71, 72, 73] (wV E (fun j => h (List.getD [74, 75, 76, 67, 68, 69, 70, 71, 72, 73] j 0)) (fun j => g (List.getD ([] : List Nat) j 0)) ν) = wX E h g (put [74, 75, 76, 67, 68, 69, 70, 71, 72, 73] μ ν) := putW_A (by decide +kernel) rfl rfl
def f_X6_begins (μ : Mem) (x1 : Int32) : Option Mem := (if (30 : Int32) ≤ (μ 0 6) then some μ else (if inb (μ 0 6) 30 = true then bd (upA μ 2 (upd (μ 2) (μ 0 6).toNatClampNeg x1)) fun μ2 => (bd (upA μ2 0 (upd (μ2 0) 6 ((μ2 0 6) + (1 : Int32)))) fun μ3 => (some μ3)) else none))
set_option maxHeartbeats 4000000 in
set_option maxRecDepth 20000 in
theorem c_X6_begins (E : Ev) (h : Nat → Nat) (g : Nat → Option Nat) {μ : Mem} {x1 : Int32} {r : Mem} (hf : f_X6_begins μ x1 = some r) : Ct E yX6_begins cX6_begins 2 none (rmOf 0 0) (wV E h g μ) (wV E h g r) [.ref (h 0), .int x1] none := by
  refine ct_start RX6 0 (by decide) rfl (Nat.le_of_ble_eq_true rfl) ?_
  intro p l e s m args below meth c A Q X hr hlk hQ
  rw [f_X6_begins] at hf
  refine j_aload_n X dX6_begins_0 rfl rfl ?_
  refine j_get (C := RX6) (T := TX6) (N := 7) X iX6 0 (wV_0 ..) rfl 6 (by decide) k_292 rfl rfl dX6_begins_1 ?_
  refine j_bipush (v := (30 : Int32)) X dX6_begins_4 (by decide) ?_
  refine j_icmp_ge (tgt := 29) X dX6_begins_6 (by decide) (fun c_6 => ?_) (fun c_6 => ?_)
  · replace hf := (if_pos c_6).symm.trans hf
    obtain rfl := Option.some.inj hf
    exact j_vret X hr hlk dX6_begins_29 hQ
  · replace hf := (if_neg c_6).symm.trans hf
    refine j_aload_n X dX6_begins_9 rfl rfl ?_
    refine j_get (C := RX6) (T := TX6) (N := 7) X iX6 0 (wV_0 ..) rfl 5 (by decide) k_291 rfl rfl dX6_begins_10 ?_
    refine j_aload_n X dX6_begins_13 rfl rfl ?_
    refine j_get (C := RX6) (T := TX6) (N := 7) X iX6 0 (wV_0 ..) rfl 6 (by decide) k_292 rfl rfl dX6_begins_14 ?_
    refine j_iload_n X dX6_begins_17 rfl rfl ?_
    obtain ⟨c1, hf⟩ := oi_in hf
    obtain ⟨μ2, e_μ2, hf⟩ := bd_e hf
    refine j_iast X 2 (wV_2 ..) c1 dX6_begins_18 (ws' := (wV E h g μ2)) (by rw [e_μ2]; exact wV_s2 ..) ?_
    refine j_aload_n X dX6_begins_19 rfl rfl ?_
    refine j_dup X dX6_begins_20 rfl ?_
    refine j_get (C := RX6) (T := TX6) (N := 7) X iX6 0 (wV_0 ..) rfl 6 (by decide) k_292 rfl rfl dX6_begins_21 ?_
    refine j_iconst (v := (1 : Int32)) X dX6_begins_24 (by decide) ?_
    refine j_iadd X dX6_begins_25 ?_
    obtain ⟨μ3, e_μ3, hf⟩ := bd_e hf
    refine j_put (C := RX6) (T := TX6) (N := 7) X iX6 0 (wV_0 ..) rfl 6 (by decide) k_292 rfl tyX6 tyX6_ok nmX6 rfl (ty := .int) (by decide +kernel) rfl rfl (Nat.le_of_ble_eq_true rfl) dX6_begins_26 (ws' := (wV E h g μ3)) (by rw [e_μ3]; exact wV_f0_6 ..) ?_
    obtain rfl := Option.some.inj hf
    exact j_vret X hr hlk dX6_begins_29 hQ
theorem cut_wV_wV_c (E : Ev) (h : Nat → Nat) (g : Nat → Option Nat) (μ : Mem) : ([0, 1, 2, 3, 4, 5, 6, 7, 8, 9] : List Nat).map (fun i => (wV E h g μ)[i]?) = (wV E h g μ).map some := cutAll (n := 10) rfl
theorem cut_wV_wV_w (E : Ev) (h : Nat → Nat) (g : Nat → Option Nat) (μ : Mem) (ν : Mem) : putW (wV E h g μ) [0, 1, 2, 3, 4, 5, 6, 7, 8, 9] (wV E h g ν) = wV E h g ν := putW_all (n := 10) (by decide +kernel) rfl rfl
def f_X7_holds_k0 (μ : Mem) (x2 : Int32) : Option (Mem × Int32) := (f_X6_begins μ (10 : Int32)).bind fun q1 => (some (q1, (x2 + (q1 0 0))))
set_option maxHeartbeats 4000000 in
set_option maxRecDepth 20000 in
theorem c_X7_holds_k0 (E : Ev) (h : Nat → Nat) (g : Nat → Option Nat) {μ : Mem} {x2 : Int32} {r : (Mem × Int32)} (hf : f_X7_holds_k0 μ x2 = some r) : Ct E yX7_holds cX7_holds 3 (some .int) (rmOf 1 21) (wV E h g μ) (wV E h g r.1) [.ref (h 3), .ref (h 0), .int x2] (some (.int r.2)) := by
  refine ct_start RX7 0 (by decide) rfl (Nat.le_of_ble_eq_true rfl) ?_
  intro p l e s m args below meth c A Q X hr hlk hQ
  rw [f_X7_holds_k0] at hf
  refine j_aload_n X dX7_holds_0 rfl rfl ?_
  refine j_bipush (v := (10 : Int32)) X dX7_holds_1 (by decide) ?_
  obtain ⟨q1, g_q1, hf⟩ := ob_t hf
  refine j_callV X [0, 1, 2, 3, 4, 5, 6, 7, 8, 9] 0 (c_X6_begins E h g g_q1) (cut_wV_wV_c ..) rfl rfl (ws' := (wV E h g q1)) (cut_wV_wV_w ..) (wV_0 ..) rfl k_762 k_745 k_746 k_79 k_747 (⟨rfl, rfl⟩) hdV_X6_begins ⟨Nat.le_of_ble_eq_true rfl, Nat.le_of_ble_eq_true rfl⟩ rfl (Nat.le_of_ble_eq_true rfl) rfl dX7_holds_3 ?_
  refine j_iload_n X dX7_holds_6 rfl rfl ?_
  refine j_aload_n X dX7_holds_7 rfl rfl ?_
  refine j_get (C := RX6) (T := TX6) (N := 7) X iX6 0 (wV_0 ..) rfl 0 (by decide) k_278 rfl rfl dX7_holds_8 ?_
  refine j_iadd X dX7_holds_11 ?_
  obtain rfl := Option.some.inj hf
  exact j_iret X hr hlk rfl dX7_holds_12 hQ
def f_X6_keep (μ : Mem) : Option Mem := (if inc (0 : Int32) (0 : Int32) (μ 0 6) 30 30 = true then bd (upA μ 1 (va_cpy (μ 2) (μ 1) (0 : Int32).toNatClampNeg (0 : Int32).toNatClampNeg (μ 0 6).toNatClampNeg)) fun μ2 => (bd (upA μ2 0 (upd (μ2 0) 3 (μ2 0 6))) fun μ3 => (some μ3)) else none)
set_option maxHeartbeats 4000000 in
set_option maxRecDepth 20000 in
theorem c_X6_keep (E : Ev) (h : Nat → Nat) (g : Nat → Option Nat) {μ : Mem} {r : Mem} (hf : f_X6_keep μ = some r) : Ct E yX6_keep cX6_keep 1 none (rmOf 1 43) (wV E h g μ) (wV E h g r) [.ref (h 0)] none := by
  refine ct_start RX6 0 (by decide) rfl (Nat.le_of_ble_eq_true rfl) ?_
  intro p l e s m args below meth c A Q X hr hlk hQ
  rw [f_X6_keep] at hf
  refine j_aload_n X dX6_keep_0 rfl rfl ?_
  refine j_get (C := RX6) (T := TX6) (N := 7) X iX6 0 (wV_0 ..) rfl 5 (by decide) k_291 rfl rfl dX6_keep_1 ?_
  refine j_iconst (v := (0 : Int32)) X dX6_keep_4 (by decide) ?_
  refine j_aload_n X dX6_keep_5 rfl rfl ?_
  refine j_get (C := RX6) (T := TX6) (N := 7) X iX6 0 (wV_0 ..) rfl 4 (by decide) k_289 rfl rfl dX6_keep_6 ?_
  refine j_iconst (v := (0 : Int32)) X dX6_keep_9 (by decide) ?_
  refine j_aload_n X dX6_keep_10 rfl rfl ?_
  refine j_get (C := RX6) (T := TX6) (N := 7) X iX6 0 (wV_0 ..) rfl 6 (by decide) k_292 rfl rfl dX6_keep_11 ?_
  obtain ⟨c1, hf⟩ := oi_cp hf
  obtain ⟨μ2, e_μ2, hf⟩ := bd_e hf
  refine j_copyi X k_830 k_644 k_643 k_82 2 1 (wV_2 ..) (wV_1 ..) c1.1 c1.2.1 c1.2.2.1 c1.2.2.2.1 c1.2.2.2.2 (Nat.le_of_ble_eq_true rfl) (Nat.le_of_ble_eq_true rfl) dX6_keep_14 (ws' := (wV E h g μ2)) (by rw [e_μ2]; exact wV_s1 ..) ?_
  refine j_aload_n X dX6_keep_17 rfl rfl ?_
  refine j_aload_n X dX6_keep_18 rfl rfl ?_
  refine j_get (C := RX6) (T := TX6) (N := 7) X iX6 0 (wV_0 ..) rfl 6 (by decide) k_292 rfl rfl dX6_keep_19 ?_
  obtain ⟨μ3, e_μ3, hf⟩ := bd_e hf
  refine j_put (C := RX6) (T := TX6) (N := 7) X iX6 0 (wV_0 ..) rfl 3 (by decide) k_287 rfl tyX6 tyX6_ok nmX6 rfl (ty := .int) (by decide +kernel) rfl rfl (Nat.le_of_ble_eq_true rfl) dX6_keep_22 (ws' := (wV E h g μ3)) (by rw [e_μ3]; exact wV_f0_3 ..) ?_
  obtain rfl := Option.some.inj hf
  exact j_vret X hr hlk dX6_keep_25 hQ
def f_X7_leans_k0 (μ : Mem) (x2 : Int32) : Option (Mem × Int32) := (f_X6_begins μ (11 : Int32)).bind fun q1 => ((f_X7_holds_k0 q1 x2).bind fun q2 => (some (q2.1, (q2.2 * (2 : Int32)))))
set_option maxHeartbeats 4000000 in
set_option maxRecDepth 20000 in
theorem c_X7_leans_k0 (E : Ev) (h : Nat → Nat) (g : Nat → Option Nat) {μ : Mem} {x2 : Int32} {r : (Mem × Int32)} (hf : f_X7_leans_k0 μ x2 = some r) : Ct E yX7_leans cX7_leans 3 (some .int) (rmOf 2 43) (wV E h g μ) (wV E h g r.1) [.ref (h 3), .ref (h 0), .int x2] (some (.int r.2)) := by
  refine ct_start RX7 0 (by decide) rfl (Nat.le_of_ble_eq_true rfl) ?_
  intro p l e s m args below meth c A Q X hr hlk hQ
  rw [f_X7_leans_k0] at hf
  refine j_aload_n X dX7_leans_0 rfl rfl ?_
  refine j_bipush (v := (11 : Int32)) X dX7_leans_1 (by decide) ?_
  obtain ⟨q1, g_q1, hf⟩ := ob_t hf
  refine j_callV X [0, 1, 2, 3, 4, 5, 6, 7, 8, 9] 0 (c_X6_begins E h g g_q1) (cut_wV_wV_c ..) rfl rfl (ws' := (wV E h g q1)) (cut_wV_wV_w ..) (wV_0 ..) rfl k_762 k_745 k_746 k_79 k_747 (⟨rfl, rfl⟩) hdV_X6_begins ⟨Nat.le_of_ble_eq_true rfl, Nat.le_of_ble_eq_true rfl⟩ rfl (Nat.le_of_ble_eq_true rfl) rfl dX7_leans_3 ?_
  refine j_aload_n X dX7_leans_6 rfl rfl ?_
  refine j_aload_n X dX7_leans_7 rfl rfl ?_
  refine j_iload_n X dX7_leans_8 rfl rfl ?_
  obtain ⟨q2, g_q2, hf⟩ := ob_t hf
  refine j_callV X [0, 1, 2, 3, 4, 5, 6, 7, 8, 9] 3 (c_X7_holds_k0 E h g g_q2) (cut_wV_wV_c ..) rfl rfl (ws' := (wV E h g q2.1)) (cut_wV_wV_w ..) (wV_3 ..) rfl k_785 k_738 k_739 k_69 k_761 (⟨rfl, rfl⟩) hdV_X7_holds ⟨Nat.le_of_ble_eq_true rfl, Nat.le_of_ble_eq_true rfl⟩ rfl (Nat.le_of_ble_eq_true rfl) rfl dX7_leans_9 ?_
  refine j_iconst (v := (2 : Int32)) X dX7_leans_12 (by decide) ?_
  refine j_imul X dX7_leans_13 ?_
  obtain rfl := Option.some.inj hf
  exact j_iret X hr hlk rfl dX7_leans_14 hQ
def f_X7_sways_k0 (μ : Mem) (x2 : Int32) : Option (Mem × Int32) := (f_X6_begins μ (12 : Int32)).bind fun q1 => ((f_X7_leans_k0 q1 x2).bind fun q2 => (some (q2.1, (q2.2 - (q2.1 0 1)))))
set_option maxHeartbeats 4000000 in
set_option maxRecDepth 20000 in
theorem c_X7_sways_k0 (E : Ev) (h : Nat → Nat) (g : Nat → Option Nat) {μ : Mem} {x2 : Int32} {r : (Mem × Int32)} (hf : f_X7_sways_k0 μ x2 = some r) : Ct E yX7_sways cX7_sways 3 (some .int) (rmOf 3 65) (wV E h g μ) (wV E h g r.1) [.ref (h 3), .ref (h 0), .int x2] (some (.int r.2)) := by
  refine ct_start RX7 0 (by decide) rfl (Nat.le_of_ble_eq_true rfl) ?_
  intro p l e s m args below meth c A Q X hr hlk hQ
  rw [f_X7_sways_k0] at hf
  refine j_aload_n X dX7_sways_0 rfl rfl ?_
  refine j_bipush (v := (12 : Int32)) X dX7_sways_1 (by decide) ?_
  obtain ⟨q1, g_q1, hf⟩ := ob_t hf
  refine j_callV X [0, 1, 2, 3, 4, 5, 6, 7, 8, 9] 0 (c_X6_begins E h g g_q1) (cut_wV_wV_c ..) rfl rfl (ws' := (wV E h g q1)) (cut_wV_wV_w ..) (wV_0 ..) rfl k_762 k_745 k_746 k_79 k_747 (⟨rfl, rfl⟩) hdV_X6_begins ⟨Nat.le_of_ble_eq_true rfl, Nat.le_of_ble_eq_true rfl⟩ rfl (Nat.le_of_ble_eq_true rfl) rfl dX7_sways_3 ?_
  refine j_aload_n X dX7_sways_6 rfl rfl ?_
  refine j_aload_n X dX7_sways_7 rfl rfl ?_
  refine j_iload_n X dX7_sways_8 rfl rfl ?_
  obtain ⟨q2, g_q2, hf⟩ := ob_t hf
  refine j_callV X [0, 1, 2, 3, 4, 5, 6, 7, 8, 9] 3 (c_X7_leans_k0 E h g g_q2) (cut_wV_wV_c ..) rfl rfl (ws' := (wV E h g q2.1)) (cut_wV_wV_w ..) (wV_3 ..) rfl k_806 k_764 k_765 k_69 k_784 (⟨rfl, rfl⟩) hdV_X7_leans ⟨Nat.le_of_ble_eq_true rfl, Nat.le_of_ble_eq_true rfl⟩ rfl (Nat.le_of_ble_eq_true rfl) rfl dX7_sways_9 ?_
  refine j_aload_n X dX7_sways_12 rfl rfl ?_
  refine j_get (C := RX6) (T := TX6) (N := 7) X iX6 0 (wV_0 ..) rfl 1 (by decide) k_282 rfl rfl dX7_sways_13 ?_
  refine j_isub X dX7_sways_16 ?_
  obtain rfl := Option.some.inj hf
  exact j_iret X hr hlk rfl dX7_sways_17 hQ
