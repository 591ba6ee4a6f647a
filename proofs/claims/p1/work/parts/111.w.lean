def f_X11_isPost (x0 : Int32) : Option Int32 := (f_X11_within x0 (0 : Int32) (8 : Int32)).bind fun q1 => ((if q1 = 0 ∨ q1 = 1 then some q1 else none))
set_option maxHeartbeats 4000000 in
set_option maxRecDepth 20000 in
theorem c_X11_isPost (E : Ev) {x0 : Int32} {r : Int32} (hf : f_X11_isPost x0 = some r) : Ct E yX11_isPost cX11_isPost 1 (some .boolean) (rmOf 1 22) [] [] [.int x0] (some (.int r)) := by
  refine ct_start RX11 0 (by decide) rfl (Nat.le_of_ble_eq_true rfl) ?_
  intro p l e s m args below meth c A Q X hr hlk hQ
  rw [f_X11_isPost] at hf
  refine j_iload_n X dX11_isPost_0 rfl rfl ?_
  refine j_iconst (v := (0 : Int32)) X dX11_isPost_1 (by decide) ?_
  refine j_bipush (v := (8 : Int32)) X dX11_isPost_2 (by decide) ?_
  obtain ⟨q1, g_q1, hf⟩ := ob_t hf
  refine j_callS X [] (c_X11_within E g_q1) rfl rfl rfl (ws' := []) rfl k_348 k_349 k_68 k_350 (⟨rfl, rfl⟩) hdS_X11_within ⟨Nat.le_of_ble_eq_true rfl, Nat.le_of_ble_eq_true rfl⟩ rfl (Nat.le_of_ble_eq_true rfl) rfl dX11_isPost_4 ?_
  obtain ⟨c2, hf⟩ := oi_t hf
  obtain rfl := Option.some.inj hf
  exact j_iret X hr hlk (nb01 c2) dX11_isPost_7 hQ
def f_X11_at (μ : Mem) (x1 : Int32) : Option (Mem × Int32) := (f_X11_isPost x1).bind fun q1 => ((if q1 = 0 then (f_X11_fails μ (1 : Int32)).bind fun q4 => (some (q4.1, q4.2)) else (f_X4_whoIsAt (sub [23, 24, 25, 26, 27, 28, 7, 8, 9, 10, 11, 12, 13, 14, 66, 67, 68, 69, 70, 71, 72, 73] μ) x1).bind fun q2 => (bd (put [23, 24, 25, 26, 27, 28, 7, 8, 9, 10, 11, 12, 13, 14, 66, 67, 68, 69, 70, 71, 72, 73] μ q2.1) fun μ3 => (some (μ3, q2.2)))))
set_option maxHeartbeats 4000000 in
set_option maxRecDepth 20000 in
theorem c_X11_at (E : Ev) (h : Nat → Nat) (g : Nat → Option Nat) {μ : Mem} {x1 : Int32} {r : (Mem × Int32)} (hf : f_X11_at μ x1 = some r) : Ct E yX11_at cX11_at 2 (some .int) (rmOf 2 42) (wX E h g μ) (wX E h g r.1) [.ref (h 0), .int x1] (some (.int r.2)) := by
  refine ct_start RX11 0 (by decide) rfl (Nat.le_of_ble_eq_true rfl) ?_
  intro p l e s m args below meth c A Q X hr hlk hQ
  rw [f_X11_at] at hf
  refine j_iload_n X dX11_at_0 rfl rfl ?_
  obtain ⟨q1, g_q1, hf⟩ := ob_t hf
  refine j_callS X [] (c_X11_isPost E g_q1) rfl rfl rfl (ws' := (wX E h g μ)) rfl k_500 k_501 k_68 k_502 (⟨rfl, rfl⟩) hdS_X11_isPost ⟨Nat.le_of_ble_eq_true rfl, Nat.le_of_ble_eq_true rfl⟩ rfl (Nat.le_of_ble_eq_true rfl) rfl dX11_at_1 ?_
  refine j_if_ne (tgt := 13) X dX11_at_4 (by decide) (fun c_4 => ?_) (fun c_4 => ?_)
  · replace hf := (if_neg c_4).symm.trans hf
    refine j_aload_n X dX11_at_13 rfl rfl ?_
    refine j_get (C := RX11) (T := TX11) (N := 10) X iX11 0 (wX_0 ..) rfl 0 (by decide) k_310 rfl rfl dX11_at_14 ?_
    refine j_get (C := RX5) (T := TX5) (N := 8) X iX5 1 (wX_1 ..) rfl 2 (by decide) k_239 rfl rfl dX11_at_17 ?_
    refine j_iload_n X dX11_at_20 rfl rfl ?_
    obtain ⟨q2, g_q2, hf⟩ := ob_t hf
    obtain ⟨μ3, e_μ3, hf⟩ := bd_e hf
    refine j_callV X [23, 24, 25, 26, 27, 28, 7, 8, 9, 10, 11, 12, 13, 14, 66, 67, 68, 69, 70, 71, 72, 73] 0 (c_X4_whoIsAt E (fun j => h (List.getD [23, 24, 25, 26, 27, 28, 7, 8, 9, 10, 11, 12, 13, 14, 66, 67, 68, 69, 70, 71, 72, 73] j 0)) (fun j => g (List.getD [0, 1] j 0)) g_q2) (cut_wX_wR_23_24_25_c ..) rfl rfl (ws' := (wX E h g μ3)) (by rw [e_μ3]; exact cut_wX_wR_23_24_25_w ..) (wR_0 ..) rfl k_503 k_504 k_505 k_78 k_506 (⟨rfl, rfl⟩) hdV_X4_whoIsAt ⟨Nat.le_of_ble_eq_true rfl, Nat.le_of_ble_eq_true rfl⟩ rfl (Nat.le_of_ble_eq_true rfl) rfl dX11_at_21 ?_
    obtain rfl := Option.some.inj hf
    exact j_iret X hr hlk rfl dX11_at_24 hQ
  · replace hf := (if_pos c_4).symm.trans hf
    refine j_aload_n X dX11_at_7 rfl rfl ?_
    refine j_iconst (v := (1 : Int32)) X dX11_at_8 (by decide) ?_
    obtain ⟨q4, g_q4, hf⟩ := ob_t hf
    refine j_callV X [0, 1, 2, 3, 4, 5, 6, 7, 8, 9, 10, 11, 12, 13, 14, 15, 16, 17, 18, 19, 20, 21, 22, 23, 24, 25, 26, 27, 28, 29, 30, 31, 32, 33, 34, 35, 36, 37, 38, 39, 40, 41, 42, 43, 44, 45, 46, 47, 48, 49, 50, 51, 52, 53, 54, 55, 56, 57, 58, 59, 60, 61, 62, 63, 64, 65, 66, 67, 68, 69, 70, 71, 72, 73, 74, 75, 76, 77, 78, 79, 80, 81, 82, 83, 84] 0 (c_X11_fails E h g g_q4) (cut_wX_wX_c ..) rfl rfl (ws' := (wX E h g q4.1)) (cut_wX_wX_w ..) (wX_0 ..) rfl k_351 k_353 k_0 k_68 k_354 (⟨rfl, rfl⟩) hdV_X11_fails ⟨Nat.le_of_ble_eq_true rfl, Nat.le_of_ble_eq_true rfl⟩ rfl (Nat.le_of_ble_eq_true rfl) rfl dX11_at_9 ?_
    obtain rfl := Option.some.inj hf
    exact j_iret X hr hlk rfl dX11_at_12 hQ
def f_X11_feed_L39 : Nat → Mem → Int64 → Int32 → Int32 → Option (Mem × Int32)
  | 0, _, _, _, _ => none
  | n + 1, μ, x1, x3, x4 => (if x3 ≤ x4 then some (μ, (μ 1 5)) else (if inb (μ 1 5) 60 = true then bd (upA μ 2 (upd (μ 2) (μ 1 5).toNatClampNeg (vp_nar .byte (((lushr x1 ((8 : Int32) * x4)).toInt32).toInt8.toInt32)))) fun μ3 => (bd (upA μ3 1 (upd (μ3 1) 5 ((μ3 1 5) + (1 : Int32)))) fun μ4 => ((f_X11_feed_L39 n) μ4 x1 x3 (x4 + (1 : Int32)))) else none))
def f_X11_feed (μ : Mem) (x1 : Int64) (x3 : Int32) : Option (Mem × Int32) := (f_X11_within x3 (1 : Int32) (8 : Int32)).bind fun q1 => ((if q1 = 0 then (f_X11_fails μ (1 : Int32)).bind fun q6 => (some (q6.1, q6.2)) else (if (μ 1 5) ≤ ((60 : Int32) - x3) then f_X11_feed_L39 fuel0 μ x1 x3 (0 : Int32) else (f_X11_fails μ (4 : Int32)).bind fun q5 => (some (q5.1, q5.2)))))
set_option maxHeartbeats 4000000 in
set_option maxRecDepth 20000 in
theorem c_X11_feed (E : Ev) (h : Nat → Nat) (g : Nat → Option Nat) {μ : Mem} {x1 : Int64} {x3 : Int32} {r : (Mem × Int32)} (hf : f_X11_feed μ x1 x3 = some r) : Ct E yX11_feed cX11_feed 5 (some .int) (rmOf 1 22) (wX E h g μ) (wX E h g r.1) [.ref (h 0), .long x1, .int x3] (some (.int r.2)) := by
  refine ct_start RX11 1 (by decide) rfl (Nat.le_of_ble_eq_true rfl) ?_
  intro p l e s m args below meth c A Q X hr hlk hQ
  have lab39 : ∀ (n : Nat) (μ : Mem) (x1 : Int64) (x3 : Int32) (x4 : Int32), f_X11_feed_L39 n μ x1 x3 x4 = some r → J p l e (rmOf 1 22) s m args below meth c E A 5 Q (wX E h g μ) [some (.ref (h 0)), some (.long x1), none, some (.int x3), some (.int x4)] 39 [] := by
    intro n
    induction n with
    | zero => intro μ x1 x3 x4 hf; cases (show none = some r from hf)
    | succ n ih =>
      intro μ x1 x3 x4 hf
      rw [f_X11_feed_L39] at hf
      refine j_iload X dX11_feed_39 rfl ?_
      refine j_iload_n X dX11_feed_41 rfl rfl ?_
      refine j_icmp_ge (tgt := 88) X dX11_feed_42 (by decide) (fun c_42 => ?_) (fun c_42 => ?_)
      · replace hf := (if_pos c_42).symm.trans hf
        refine j_aload_n X dX11_feed_88 rfl rfl ?_
        refine j_get (C := RX11) (T := TX11) (N := 10) X iX11 0 (wX_0 ..) rfl 0 (by decide) k_310 rfl rfl dX11_feed_89 ?_
        refine j_get (C := RX5) (T := TX5) (N := 8) X iX5 1 (wX_1 ..) rfl 5 (by decide) k_245 rfl rfl dX11_feed_92 ?_
        obtain rfl := Option.some.inj hf
        exact j_iret X hr hlk rfl dX11_feed_95 hQ
      · replace hf := (if_neg c_42).symm.trans hf
        refine j_aload_n X dX11_feed_45 rfl rfl ?_
        refine j_get (C := RX11) (T := TX11) (N := 10) X iX11 0 (wX_0 ..) rfl 0 (by decide) k_310 rfl rfl dX11_feed_46 ?_
        refine j_get (C := RX5) (T := TX5) (N := 8) X iX5 1 (wX_1 ..) rfl 3 (by decide) k_241 rfl rfl dX11_feed_49 ?_
        refine j_aload_n X dX11_feed_52 rfl rfl ?_
        refine j_get (C := RX11) (T := TX11) (N := 10) X iX11 0 (wX_0 ..) rfl 0 (by decide) k_310 rfl rfl dX11_feed_53 ?_
        refine j_get (C := RX5) (T := TX5) (N := 8) X iX5 1 (wX_1 ..) rfl 5 (by decide) k_245 rfl rfl dX11_feed_56 ?_
        refine j_lload_n X dX11_feed_59 rfl rfl ?_
        refine j_bipush (v := (8 : Int32)) X dX11_feed_60 (by decide) ?_
        refine j_iload X dX11_feed_62 rfl ?_
        refine j_imul X dX11_feed_64 ?_
        refine j_lushr X dX11_feed_65 ?_
        refine j_l2i X dX11_feed_66 ?_
        refine j_i2b X dX11_feed_67 ?_
        obtain ⟨c2, hf⟩ := oi_in hf
        obtain ⟨μ3, e_μ3, hf⟩ := bd_e hf
        refine j_bast X 2 (wX_2 ..) c2 dX11_feed_68 (ws' := (wX E h g μ3)) (by rw [e_μ3]; exact wX_s2 ..) ?_
        refine j_aload_n X dX11_feed_69 rfl rfl ?_
        refine j_get (C := RX11) (T := TX11) (N := 10) X iX11 0 (wX_0 ..) rfl 0 (by decide) k_310 rfl rfl dX11_feed_70 ?_
        refine j_dup X dX11_feed_73 rfl ?_
        refine j_get (C := RX5) (T := TX5) (N := 8) X iX5 1 (wX_1 ..) rfl 5 (by decide) k_245 rfl rfl dX11_feed_74 ?_
        refine j_iconst (v := (1 : Int32)) X dX11_feed_77 (by decide) ?_
        refine j_iadd X dX11_feed_78 ?_
        obtain ⟨μ4, e_μ4, hf⟩ := bd_e hf
        refine j_put (C := RX5) (T := TX5) (N := 8) X iX5 1 (wX_1 ..) rfl 5 (by decide) k_245 rfl tyX5 tyX5_ok nmX5 rfl (ty := .int) (by decide +kernel) rfl rfl (Nat.le_of_ble_eq_true rfl) dX11_feed_79 (ws' := (wX E h g μ4)) (by rw [e_μ4]; exact wX_f1_5 ..) ?_
        refine j_iinc4 (k := (1 : Int32)) X dX11_feed_82 (by decide) (by decide) rfl ?_
        refine j_goto (tgt := 39) X dX11_feed_85 (by decide) ?_
        refine j_keep [true, true, false, true, true] rfl ?_
        exact ih _ _ _ _ hf
  rw [f_X11_feed] at hf
  refine j_iload_n X dX11_feed_0 rfl rfl ?_
  refine j_iconst (v := (1 : Int32)) X dX11_feed_1 (by decide) ?_
  refine j_bipush (v := (8 : Int32)) X dX11_feed_2 (by decide) ?_
  obtain ⟨q1, g_q1, hf⟩ := ob_t hf
  refine j_callS X [] (c_X11_within E g_q1) rfl rfl rfl (ws' := (wX E h g μ)) rfl k_348 k_349 k_68 k_350 (⟨rfl, rfl⟩) hdS_X11_within ⟨Nat.le_of_ble_eq_true rfl, Nat.le_of_ble_eq_true rfl⟩ rfl (Nat.le_of_ble_eq_true rfl) rfl dX11_feed_4 ?_
  refine j_if_ne (tgt := 16) X dX11_feed_7 (by decide) (fun c_7 => ?_) (fun c_7 => ?_)
  · replace hf := (if_neg c_7).symm.trans hf
    refine j_aload_n X dX11_feed_16 rfl rfl ?_
    refine j_get (C := RX11) (T := TX11) (N := 10) X iX11 0 (wX_0 ..) rfl 0 (by decide) k_310 rfl rfl dX11_feed_17 ?_
    refine j_get (C := RX5) (T := TX5) (N := 8) X iX5 1 (wX_1 ..) rfl 5 (by decide) k_245 rfl rfl dX11_feed_20 ?_
    refine j_bipush (v := (60 : Int32)) X dX11_feed_23 (by decide) ?_
    refine j_iload_n X dX11_feed_25 rfl rfl ?_
    refine j_isub X dX11_feed_26 ?_
    refine j_icmp_le (tgt := 36) X dX11_feed_27 (by decide) (fun c_27 => ?_) (fun c_27 => ?_)
    · replace hf := (if_pos c_27).symm.trans hf
      refine j_iconst (v := (0 : Int32)) X dX11_feed_36 (by decide) ?_
      refine j_istore4 X dX11_feed_37 (by decide) rfl ?_
      refine j_keep [true, true, false, true, true] rfl ?_
      exact lab39 _ _ _ _ _ hf
    · replace hf := (if_neg c_27).symm.trans hf
      refine j_aload_n X dX11_feed_30 rfl rfl ?_
      refine j_iconst (v := (4 : Int32)) X dX11_feed_31 (by decide) ?_
      obtain ⟨q5, g_q5, hf⟩ := ob_t hf
      refine j_callV X [0, 1, 2, 3, 4, 5, 6, 7, 8, 9, 10, 11, 12, 13, 14, 15, 16, 17, 18, 19, 20, 21, 22, 23, 24, 25, 26, 27, 28, 29, 30, 31, 32, 33, 34, 35, 36, 37, 38, 39, 40, 41, 42, 43, 44, 45, 46, 47, 48, 49, 50, 51, 52, 53, 54, 55, 56, 57, 58, 59, 60, 61, 62, 63, 64, 65, 66, 67, 68, 69, 70, 71, 72, 73, 74, 75, 76, 77, 78, 79, 80, 81, 82, 83, 84] 0 (c_X11_fails E h g g_q5) (cut_wX_wX_c ..) rfl rfl (ws' := (wX E h g q5.1)) (cut_wX_wX_w ..) (wX_0 ..) rfl k_351 k_353 k_0 k_68 k_354 (⟨rfl, rfl⟩) hdV_X11_fails ⟨Nat.le_of_ble_eq_true rfl, Nat.le_of_ble_eq_true rfl⟩ rfl (Nat.le_of_ble_eq_true rfl) rfl dX11_feed_32 ?_
      obtain rfl := Option.some.inj hf
      exact j_iret X hr hlk rfl dX11_feed_35 hQ
  · replace hf := (if_pos c_7).symm.trans hf
    refine j_aload_n X dX11_feed_10 rfl rfl ?_
    refine j_iconst (v := (1 : Int32)) X dX11_feed_11 (by decide) ?_
    obtain ⟨q6, g_q6, hf⟩ := ob_t hf
    refine j_callV X [0, 1, 2, 3, 4, 5, 6, 7, 8, 9, 10, 11, 12, 13, 14, 15, 16, 17, 18, 19, 20, 21, 22, 23, 24, 25, 26, 27, 28, 29, 30, 31, 32, 33, 34, 35, 36, 37, 38, 39, 40, 41, 42, 43, 44, 45, 46, 47, 48, 49, 50, 51, 52, 53, 54, 55, 56, 57, 58, 59, 60, 61, 62, 63, 64, 65, 66, 67, 68, 69, 70, 71, 72, 73, 74, 75, 76, 77, 78, 79, 80, 81, 82, 83, 84] 0 (c_X11_fails E h g g_q6) (cut_wX_wX_c ..) rfl rfl (ws' := (wX E h g q6.1)) (cut_wX_wX_w ..) (wX_0 ..) rfl k_351 k_353 k_0 k_68 k_354 (⟨rfl, rfl⟩) hdV_X11_fails ⟨Nat.le_of_ble_eq_true rfl, Nat.le_of_ble_eq_true rfl⟩ rfl (Nat.le_of_ble_eq_true rfl) rfl dX11_feed_12 ?_
    obtain rfl := Option.some.inj hf
    exact j_iret X hr hlk rfl dX11_feed_15 hQ
theorem cut_wX_wZ_1_7_11_c (E : Ev) (h : Nat → Nat) (g : Nat → Option Nat) (μ : Mem) : ([1] : List Nat).map (fun i => (wX E h g μ)[i]?) = (wZ E (fun j => h (List.getD [1, 7, 11, 23, 2, 3] j 0)) (fun j => g (List.getD ([] : List Nat) j 0)) (sub [1] μ)).map some := rfl
theorem cut_wX_wZ_1_7_11_w (E : Ev) (h : Nat → Nat) (g : Nat → Option Nat) (μ : Mem) (ν : Mem) : putW (wX E h g μ) [1] (wZ E (fun j => h (List.getD [1, 7, 11, 23, 2, 3] j 0)) (fun j => g (List.getD ([] : List Nat) j 0)) ν) = wX E h g (put [1] μ ν) := putW_A (by decide +kernel) rfl rfl
theorem cut_wX_wL_7_8_9_c (E : Ev) (h : Nat → Nat) (g : Nat → Option Nat) (μ : Mem) : ([7, 8, 9, 10] : List Nat).map (fun i => (wX E h g μ)[i]?) = (wL E (fun j => h (List.getD [7, 8, 9, 10] j 0)) (fun j => g (List.getD [0] j 0)) (sub [7, 8, 9, 10] μ)).map some := rfl
theorem cut_wX_wL_7_8_9_w (E : Ev) (h : Nat → Nat) (g : Nat → Option Nat) (μ : Mem) (ν : Mem) : putW (wX E h g μ) [7, 8, 9, 10] (wL E (fun j => h (List.getD [7, 8, 9, 10] j 0)) (fun j => g (List.getD [0] j 0)) ν) = wX E h g (put [7, 8, 9, 10] μ ν) := putW_A (by decide +kernel) rfl rfl
theorem cut_wX_wL_11_12_13_c (E : Ev) (h : Nat → Nat) (g : Nat → Option Nat) (μ : Mem) : ([11, 12, 13, 14] : List Nat).map (fun i => (wX E h g μ)[i]?) = (wL E (fun j => h (List.getD [11, 12, 13, 14] j 0)) (fun j => g (List.getD [1] j 0)) (sub [11, 12, 13, 14] μ)).map some := rfl
theorem cut_wX_wL_11_12_13_w (E : Ev) (h : Nat → Nat) (g : Nat → Option Nat) (μ : Mem) (ν : Mem) : putW (wX E h g μ) [11, 12, 13, 14] (wL E (fun j => h (List.getD [11, 12, 13, 14] j 0)) (fun j => g (List.getD [1] j 0)) ν) = wX E h g (put [11, 12, 13, 14] μ ν) := putW_A (by decide +kernel) rfl rfl
def f_X11_untell (μ : Mem) (x1 : Int32) : Option (Mem × Int32) := (f_X11_within x1 (0 : Int32) (1 : Int32)).bind fun q1 => ((if q1 = 0 then (f_X11_fails μ (1 : Int32)).bind fun q16 => (some (q16.1, q16.2)) else (f_X5_lawOf (sub [1] μ) x1).bind fun q2 => (bd (put [1] μ q2.1) fun μ3 => ((if q2.2 = 1 then (f_X1_isMissing (sub [7, 8, 9, 10] μ3)).bind fun q4 => (bd (put [7, 8, 9, 10] μ3 q4.1) fun μ5 => ((if q4.2 = 0 then (f_X1_forget (sub [7, 8, 9, 10] μ5)).bind fun q6 => (bd (put [7, 8, 9, 10] μ5 q6) fun μ7 => (some (μ7, (1 : Int32)))) else (f_X1_forget (sub [7, 8, 9, 10] μ5)).bind fun q8 => (bd (put [7, 8, 9, 10] μ5 q8) fun μ9 => (some (μ9, (0 : Int32))))))) else (if q2.2 = 2 then (f_X1_isMissing (sub [11, 12, 13, 14] μ3)).bind fun q10 => (bd (put [11, 12, 13, 14] μ3 q10.1) fun μ11 => ((if q10.2 = 0 then (f_X1_forget (sub [11, 12, 13, 14] μ11)).bind fun q12 => (bd (put [11, 12, 13, 14] μ11 q12) fun μ13 => (some (μ13, (1 : Int32)))) else (f_X1_forget (sub [11, 12, 13, 14] μ11)).bind fun q14 => (bd (put [11, 12, 13, 14] μ11 q14) fun μ15 => (some (μ15, (0 : Int32))))))) else none))))))
set_option maxHeartbeats 4000000 in
set_option maxRecDepth 20000 in
theorem c_X11_untell (E : Ev) (h : Nat → Nat) (g : Nat → Option Nat) {μ : Mem} {x1 : Int32} {r : (Mem × Int32)} (hf : f_X11_untell μ x1 = some r) : Ct E yX11_untell cX11_untell 4 (some .int) (rmOf 1 22) (wX E h g μ) (wX E h g r.1) [.ref (h 0), .int x1] (some (.int r.2)) := by
  refine ct_start RX11 2 (by decide) rfl (Nat.le_of_ble_eq_true rfl) ?_
  intro p l e s m args below meth c A Q X hr hlk hQ
  rw [f_X11_untell] at hf
  refine j_iload_n X dX11_untell_0 rfl rfl ?_
  refine j_iconst (v := (0 : Int32)) X dX11_untell_1 (by decide) ?_
  refine j_iconst (v := (1 : Int32)) X dX11_untell_2 (by decide) ?_
  obtain ⟨q1, g_q1, hf⟩ := ob_t hf
  refine j_callS X [] (c_X11_within E g_q1) rfl rfl rfl (ws' := (wX E h g μ)) rfl k_348 k_349 k_68 k_350 (⟨rfl, rfl⟩) hdS_X11_within ⟨Nat.le_of_ble_eq_true rfl, Nat.le_of_ble_eq_true rfl⟩ rfl (Nat.le_of_ble_eq_true rfl) rfl dX11_untell_3 ?_
  refine j_if_ne (tgt := 15) X dX11_untell_6 (by decide) (fun c_6 => ?_) (fun c_6 => ?_)
  · replace hf := (if_neg c_6).symm.trans hf
    refine j_aload_n X dX11_untell_15 rfl rfl ?_
    refine j_get (C := RX11) (T := TX11) (N := 10) X iX11 0 (wX_0 ..) rfl 0 (by decide) k_310 rfl rfl dX11_untell_16 ?_
    refine j_iload_n X dX11_untell_19 rfl rfl ?_
    obtain ⟨q2, g_q2, hf⟩ := ob_t hf
    obtain ⟨μ3, e_μ3, hf⟩ := bd_e hf
    refine j_callV X [1] 0 (c_X5_lawOf E (fun j => h (List.getD [1, 7, 11, 23, 2, 3] j 0)) (fun j => g (List.getD [] j 0)) g_q2) (cut_wX_wZ_1_7_11_c ..) rfl rfl (ws' := (wX E h g μ3)) (by rw [e_μ3]; exact cut_wX_wZ_1_7_11_w ..) (wZ_0 ..) rfl k_515 k_516 k_517 k_76 k_518 (⟨rfl, rfl⟩) hdV_X5_lawOf ⟨Nat.le_of_ble_eq_true rfl, Nat.le_of_ble_eq_true rfl⟩ rfl (Nat.le_of_ble_eq_true rfl) rfl dX11_untell_20 ?_
    by_cases n_20_0 : q2.2 = 1
    · replace hf := (if_pos n_20_0).symm.trans hf
      refine j_stk (st' := [.ref (h 7)]) (by rw [n_20_0]; rfl) ?_
      refine j_astore_n2 X dX11_untell_23 rfl (by decide) rfl ?_
      refine j_aload_n X dX11_untell_24 rfl rfl ?_
      obtain ⟨q4, g_q4, hf⟩ := ob_t hf
      obtain ⟨μ5, e_μ5, hf⟩ := bd_e hf
      refine j_callV X [7, 8, 9, 10] 0 (c_X1_isMissing E (fun j => h (List.getD [7, 8, 9, 10] j 0)) (fun j => g (List.getD [0] j 0)) g_q4) (cut_wX_wL_7_8_9_c ..) rfl rfl (ws' := (wX E h g μ5)) (by rw [e_μ5]; exact cut_wX_wL_7_8_9_w ..) (wL_0 ..) rfl k_580 k_388 k_389 k_77 k_390 (⟨rfl, rfl⟩) hdV_X1_isMissing ⟨Nat.le_of_ble_eq_true rfl, Nat.le_of_ble_eq_true rfl⟩ rfl (Nat.le_of_ble_eq_true rfl) rfl dX11_untell_25 ?_
      refine j_if_eq (tgt := 35) X dX11_untell_28 (by decide) (fun c_28 => ?_) (fun c_28 => ?_)
      · replace hf := (if_pos c_28).symm.trans hf
        refine j_iconst (v := (1 : Int32)) X dX11_untell_35 (by decide) ?_
        refine j_istore_n3 X dX11_untell_36 rfl (by decide) rfl ?_
        refine j_aload_n X dX11_untell_37 rfl rfl ?_
        obtain ⟨q6, g_q6, hf⟩ := ob_t hf
        obtain ⟨μ7, e_μ7, hf⟩ := bd_e hf
        refine j_callV X [7, 8, 9, 10] 0 (c_X1_forget E (fun j => h (List.getD [7, 8, 9, 10] j 0)) (fun j => g (List.getD [0] j 0)) g_q6) (cut_wX_wL_7_8_9_c ..) rfl rfl (ws' := (wX E h g μ7)) (by rw [e_μ7]; exact cut_wX_wL_7_8_9_w ..) (wL_0 ..) rfl k_581 k_582 k_583 k_77 k_584 (⟨rfl, rfl⟩) hdV_X1_forget ⟨Nat.le_of_ble_eq_true rfl, Nat.le_of_ble_eq_true rfl⟩ rfl (Nat.le_of_ble_eq_true rfl) rfl dX11_untell_38 ?_
        refine j_iload_n X dX11_untell_41 rfl rfl ?_
        obtain rfl := Option.some.inj hf
        exact j_iret X hr hlk rfl dX11_untell_42 hQ
      · replace hf := (if_neg c_28).symm.trans hf
        refine j_iconst (v := (0 : Int32)) X dX11_untell_31 (by decide) ?_
        refine j_goto (tgt := 36) X dX11_untell_32 (by decide) ?_
        refine j_istore_n3 X dX11_untell_36 rfl (by decide) rfl ?_
        refine j_aload_n X dX11_untell_37 rfl rfl ?_
        obtain ⟨q8, g_q8, hf⟩ := ob_t hf
        obtain ⟨μ9, e_μ9, hf⟩ := bd_e hf
        refine j_callV X [7, 8, 9, 10] 0 (c_X1_forget E (fun j => h (List.getD [7, 8, 9, 10] j 0)) (fun j => g (List.getD [0] j 0)) g_q8) (cut_wX_wL_7_8_9_c ..) rfl rfl (ws' := (wX E h g μ9)) (by rw [e_μ9]; exact cut_wX_wL_7_8_9_w ..) (wL_0 ..) rfl k_581 k_582 k_583 k_77 k_584 (⟨rfl, rfl⟩) hdV_X1_forget ⟨Nat.le_of_ble_eq_true rfl, Nat.le_of_ble_eq_true rfl⟩ rfl (Nat.le_of_ble_eq_true rfl) rfl dX11_untell_38 ?_
        refine j_iload_n X dX11_untell_41 rfl rfl ?_
        obtain rfl := Option.some.inj hf
        exact j_iret X hr hlk rfl dX11_untell_42 hQ
    · replace hf := (if_neg n_20_0).symm.trans hf
      by_cases n_20_1 : q2.2 = 2
      · replace hf := (if_pos n_20_1).symm.trans hf
        refine j_stk (st' := [.ref (h 11)]) (by rw [n_20_1]; rfl) ?_
        refine j_astore_n2 X dX11_untell_23 rfl (by decide) rfl ?_
        refine j_aload_n X dX11_untell_24 rfl rfl ?_
        obtain ⟨q10, g_q10, hf⟩ := ob_t hf
        obtain ⟨μ11, e_μ11, hf⟩ := bd_e hf
        refine j_callV X [11, 12, 13, 14] 0 (c_X1_isMissing E (fun j => h (List.getD [11, 12, 13, 14] j 0)) (fun j => g (List.getD [1] j 0)) g_q10) (cut_wX_wL_11_12_13_c ..) rfl rfl (ws' := (wX E h g μ11)) (by rw [e_μ11]; exact cut_wX_wL_11_12_13_w ..) (wL_0 ..) rfl k_580 k_388 k_389 k_77 k_390 (⟨rfl, rfl⟩) hdV_X1_isMissing ⟨Nat.le_of_ble_eq_true rfl, Nat.le_of_ble_eq_true rfl⟩ rfl (Nat.le_of_ble_eq_true rfl) rfl dX11_untell_25 ?_
        refine j_if_eq (tgt := 35) X dX11_untell_28 (by decide) (fun c_28 => ?_) (fun c_28 => ?_)
        · replace hf := (if_pos c_28).symm.trans hf
          refine j_iconst (v := (1 : Int32)) X dX11_untell_35 (by decide) ?_
          refine j_istore_n3 X dX11_untell_36 rfl (by decide) rfl ?_
          refine j_aload_n X dX11_untell_37 rfl rfl ?_
          obtain ⟨q12, g_q12, hf⟩ := ob_t hf
          obtain ⟨μ13, e_μ13, hf⟩ := bd_e hf
          refine j_callV X [11, 12, 13, 14] 0 (c_X1_forget E (fun j => h (List.getD [11, 12, 13, 14] j 0)) (fun j => g (List.getD [1] j 0)) g_q12) (cut_wX_wL_11_12_13_c ..) rfl rfl (ws' := (wX E h g μ13)) (by rw [e_μ13]; exact cut_wX_wL_11_12_13_w ..) (wL_0 ..) rfl k_581 k_582 k_583 k_77 k_584 (⟨rfl, rfl⟩) hdV_X1_forget ⟨Nat.le_of_ble_eq_true rfl, Nat.le_of_ble_eq_true rfl⟩ rfl (Nat.le_of_ble_eq_true rfl) rfl dX11_untell_38 ?_
          refine j_iload_n X dX11_untell_41 rfl rfl ?_
          obtain rfl := Option.some.inj hf
          exact j_iret X hr hlk rfl dX11_untell_42 hQ
        · replace hf := (if_neg c_28).symm.trans hf
          refine j_iconst (v := (0 : Int32)) X dX11_untell_31 (by decide) ?_
          refine j_goto (tgt := 36) X dX11_untell_32 (by decide) ?_
          refine j_istore_n3 X dX11_untell_36 rfl (by decide) rfl ?_
          refine j_aload_n X dX11_untell_37 rfl rfl ?_
          obtain ⟨q14, g_q14, hf⟩ := ob_t hf
          obtain ⟨μ15, e_μ15, hf⟩ := bd_e hf
          refine j_callV X [11, 12, 13, 14] 0 (c_X1_forget E (fun j => h (List.getD [11, 12, 13, 14] j 0)) (fun j => g (List.getD [1] j 0)) g_q14) (cut_wX_wL_11_12_13_c ..) rfl rfl (ws' := (wX E h g μ15)) (by rw [e_μ15]; exact cut_wX_wL_11_12_13_w ..) (wL_0 ..) rfl k_581 k_582 k_583 k_77 k_584 (⟨rfl, rfl⟩) hdV_X1_forget ⟨Nat.le_of_ble_eq_true rfl, Nat.le_of_ble_eq_true rfl⟩ rfl (Nat.le_of_ble_eq_true rfl) rfl dX11_untell_38 ?_
          refine j_iload_n X dX11_untell_41 rfl rfl ?_
          obtain rfl := Option.some.inj hf
          exact j_iret X hr hlk rfl dX11_untell_42 hQ
      · replace hf := (if_neg n_20_1).symm.trans hf
        cases hf
  · replace hf := (if_pos c_6).symm.trans hf
    refine j_aload_n X dX11_untell_9 rfl rfl ?_
    refine j_iconst (v := (1 : Int32)) X dX11_untell_10 (by decide) ?_
    obtain ⟨q16, g_q16, hf⟩ := ob_t hf
    refine j_callV X [0, 1, 2, 3, 4, 5, 6, 7, 8, 9, 10, 11, 12, 13, 14, 15, 16, 17, 18, 19, 20, 21, 22, 23, 24, 25, 26, 27, 28, 29, 30, 31, 32, 33, 34, 35, 36, 37, 38, 39, 40, 41, 42, 43, 44, 45, 46, 47, 48, 49, 50, 51, 52, 53, 54, 55, 56, 57, 58, 59, 60, 61, 62, 63, 64, 65, 66, 67, 68, 69, 70, 71, 72, 73, 74, 75, 76, 77, 78, 79, 80, 81, 82, 83, 84] 0 (c_X11_fails E h g g_q16) (cut_wX_wX_c ..) rfl rfl (ws' := (wX E h g q16.1)) (cut_wX_wX_w ..) (wX_0 ..) rfl k_351 k_353 k_0 k_68 k_354 (⟨rfl, rfl⟩) hdV_X11_fails ⟨Nat.le_of_ble_eq_true rfl, Nat.le_of_ble_eq_true rfl⟩ rfl (Nat.le_of_ble_eq_true rfl) rfl dX11_untell_11 ?_
    obtain rfl := Option.some.inj hf
    exact j_iret X hr hlk rfl dX11_untell_14 hQ
def f_X11_minutes (μ : Mem) (x1 : Int32) : Option (Mem × Int32) := (f_X11_within x1 (1 : Int32) (200 : Int32)).bind fun q1 => ((if q1 = 0 then (f_X11_fails μ (1 : Int32)).bind fun q5 => (some (q5.1, q5.2)) else (if ((μ 23 6) + x1) ≤ (9999 : Int32) then (f_X4_pass (sub [23, 24, 25, 26, 27, 28, 7, 8, 9, 10, 11, 12, 13, 14, 66, 67, 68, 69, 70, 71, 72, 73] μ) x1).bind fun q2 => (bd (put [23, 24, 25, 26, 27, 28, 7, 8, 9, 10, 11, 12, 13, 14, 66, 67, 68, 69, 70, 71, 72, 73] μ q2.1) fun μ3 => (some (μ3, q2.2))) else (f_X11_fails μ (3 : Int32)).bind fun q4 => (some (q4.1, q4.2)))))
set_option maxHeartbeats 4000000 in
set_option maxRecDepth 20000 in
theorem c_X11_minutes (E : Ev) (h : Nat → Nat) (g : Nat → Option Nat) {μ : Mem} {x1 : Int32} {r : (Mem × Int32)} (hf : f_X11_minutes μ x1 = some r) : Ct E yX11_minutes cX11_minutes 2 (some .int) (rmOf 6 137) (wX E h g μ) (wX E h g r.1) [.ref (h 0), .int x1] (some (.int r.2)) := by
  refine ct_start RX11 0 (by decide) rfl (Nat.le_of_ble_eq_true rfl) ?_
  intro p l e s m args below meth c A Q X hr hlk hQ
  rw [f_X11_minutes] at hf
  refine j_iload_n X dX11_minutes_0 rfl rfl ?_
  refine j_iconst (v := (1 : Int32)) X dX11_minutes_1 (by decide) ?_
  refine j_sipush (v := (200 : Int32)) X dX11_minutes_2 (by decide) ?_
  obtain ⟨q1, g_q1, hf⟩ := ob_t hf
  refine j_callS X [] (c_X11_within E g_q1) rfl rfl rfl (ws' := (wX E h g μ)) rfl k_348 k_349 k_68 k_350 (⟨rfl, rfl⟩) hdS_X11_within ⟨Nat.le_of_ble_eq_true rfl, Nat.le_of_ble_eq_true rfl⟩ rfl (Nat.le_of_ble_eq_true rfl) rfl dX11_minutes_5 ?_
  refine j_if_ne (tgt := 17) X dX11_minutes_8 (by decide) (fun c_8 => ?_) (fun c_8 => ?_)
  · replace hf := (if_neg c_8).symm.trans hf
    refine j_aload_n X dX11_minutes_17 rfl rfl ?_
    refine j_get (C := RX11) (T := TX11) (N := 10) X iX11 0 (wX_0 ..) rfl 0 (by decide) k_310 rfl rfl dX11_minutes_18 ?_
    refine j_get (C := RX5) (T := TX5) (N := 8) X iX5 1 (wX_1 ..) rfl 2 (by decide) k_239 rfl rfl dX11_minutes_21 ?_
    refine j_get (C := RX4) (T := TX4) (N := 10) X iX4 23 (wX_23 ..) rfl 6 (by decide) k_208 rfl rfl dX11_minutes_24 ?_
    refine j_iload_n X dX11_minutes_27 rfl rfl ?_
    refine j_iadd X dX11_minutes_28 ?_
    refine j_sipush (v := (9999 : Int32)) X dX11_minutes_29 (by decide) ?_
    refine j_icmp_le (tgt := 41) X dX11_minutes_32 (by decide) (fun c_32 => ?_) (fun c_32 => ?_)
    · replace hf := (if_pos c_32).symm.trans hf
      refine j_aload_n X dX11_minutes_41 rfl rfl ?_
      refine j_get (C := RX11) (T := TX11) (N := 10) X iX11 0 (wX_0 ..) rfl 0 (by decide) k_310 rfl rfl dX11_minutes_42 ?_
      refine j_get (C := RX5) (T := TX5) (N := 8) X iX5 1 (wX_1 ..) rfl 2 (by decide) k_239 rfl rfl dX11_minutes_45 ?_
      refine j_iload_n X dX11_minutes_48 rfl rfl ?_
      obtain ⟨q2, g_q2, hf⟩ := ob_t hf
      obtain ⟨μ3, e_μ3, hf⟩ := bd_e hf
      refine j_callV X [23, 24, 25, 26, 27, 28, 7, 8, 9, 10, 11, 12, 13, 14, 66, 67, 68, 69, 70, 71, 72, 73] 0 (c_X4_pass E (fun j => h (List.getD [23, 24, 25, 26, 27, 28, 7, 8, 9, 10, 11, 12, 13, 14, 66, 67, 68, 69, 70, 71, 72, 73] j 0)) (fun j => g (List.getD [0, 1] j 0)) g_q2) (cut_wX_wR_23_24_25_c ..) rfl rfl (ws' := (wX E h g μ3)) (by rw [e_μ3]; exact cut_wX_wR_23_24_25_w ..) (wR_0 ..) rfl k_589 k_590 k_591 k_78 k_592 (⟨rfl, rfl⟩) hdV_X4_pass ⟨Nat.le_of_ble_eq_true rfl, Nat.le_of_ble_eq_true rfl⟩ rfl (Nat.le_of_ble_eq_true rfl) rfl dX11_minutes_49 ?_
      obtain rfl := Option.some.inj hf
      exact j_iret X hr hlk rfl dX11_minutes_52 hQ
    · replace hf := (if_neg c_32).symm.trans hf
      refine j_aload_n X dX11_minutes_35 rfl rfl ?_
      refine j_iconst (v := (3 : Int32)) X dX11_minutes_36 (by decide) ?_
      obtain ⟨q4, g_q4, hf⟩ := ob_t hf
      refine j_callV X [0, 1, 2, 3, 4, 5, 6, 7, 8, 9, 10, 11, 12, 13, 14, 15, 16, 17, 18, 19, 20, 21, 22, 23, 24, 25, 26, 27, 28, 29, 30, 31, 32, 33, 34, 35, 36, 37, 38, 39, 40, 41, 42, 43, 44, 45, 46, 47, 48, 49, 50, 51, 52, 53, 54, 55, 56, 57, 58, 59, 60, 61, 62, 63, 64, 65, 66, 67, 68, 69, 70, 71, 72, 73, 74, 75, 76, 77, 78, 79, 80, 81, 82, 83, 84] 0 (c_X11_fails E h g g_q4) (cut_wX_wX_c ..) rfl rfl (ws' := (wX E h g q4.1)) (cut_wX_wX_w ..) (wX_0 ..) rfl k_351 k_353 k_0 k_68 k_354 (⟨rfl, rfl⟩) hdV_X11_fails ⟨Nat.le_of_ble_eq_true rfl, Nat.le_of_ble_eq_true rfl⟩ rfl (Nat.le_of_ble_eq_true rfl) rfl dX11_minutes_37 ?_
      obtain rfl := Option.some.inj hf
      exact j_iret X hr hlk rfl dX11_minutes_40 hQ
  · replace hf := (if_pos c_8).symm.trans hf
    refine j_aload_n X dX11_minutes_11 rfl rfl ?_
    refine j_iconst (v := (1 : Int32)) X dX11_minutes_12 (by decide) ?_
    obtain ⟨q5, g_q5, hf⟩ := ob_t hf
    refine j_callV X [0, 1, 2, 3, 4, 5, 6, 7, 8, 9, 10, 11, 12, 13, 14, 15, 16, 17, 18, 19, 20, 21, 22, 23, 24, 25, 26, 27, 28, 29, 30, 31, 32, 33, 34, 35, 36, 37, 38, 39, 40, 41, 42, 43, 44, 45, 46, 47, 48, 49, 50, 51, 52, 53, 54, 55, 56, 57, 58, 59, 60, 61, 62, 63, 64, 65, 66, 67, 68, 69, 70, 71, 72, 73, 74, 75, 76, 77, 78, 79, 80, 81, 82, 83, 84] 0 (c_X11_fails E h g g_q5) (cut_wX_wX_c ..) rfl rfl (ws' := (wX E h g q5.1)) (cut_wX_wX_w ..) (wX_0 ..) rfl k_351 k_353 k_0 k_68 k_354 (⟨rfl, rfl⟩) hdV_X11_fails ⟨Nat.le_of_ble_eq_true rfl, Nat.le_of_ble_eq_true rfl⟩ rfl (Nat.le_of_ble_eq_true rfl) rfl dX11_minutes_13 ?_
    obtain rfl := Option.some.inj hf
    exact j_iret X hr hlk rfl dX11_minutes_16 hQ
def f_X11_fly (μ : Mem) (x1 : Int32) : Option (Mem × Int32) := (f_X11_isPost x1).bind fun q1 => ((if q1 = 0 then (f_X11_fails μ (1 : Int32)).bind fun q4 => (some (q4.1, q4.2)) else (f_X4_flyAt (sub [23, 24, 25, 26, 27, 28, 7, 8, 9, 10, 11, 12, 13, 14, 66, 67, 68, 69, 70, 71, 72, 73] μ) x1).bind fun q2 => (bd (put [23, 24, 25, 26, 27, 28, 7, 8, 9, 10, 11, 12, 13, 14, 66, 67, 68, 69, 70, 71, 72, 73] μ q2.1) fun μ3 => (some (μ3, q2.2)))))
set_option maxHeartbeats 4000000 in
set_option maxRecDepth 20000 in
theorem c_X11_fly (E : Ev) (h : Nat → Nat) (g : Nat → Option Nat) {μ : Mem} {x1 : Int32} {r : (Mem × Int32)} (hf : f_X11_fly μ x1 = some r) : Ct E yX11_fly cX11_fly 2 (some .int) (rmOf 5 115) (wX E h g μ) (wX E h g r.1) [.ref (h 0), .int x1] (some (.int r.2)) := by
  refine ct_start RX11 0 (by decide) rfl (Nat.le_of_ble_eq_true rfl) ?_
  intro p l e s m args below meth c A Q X hr hlk hQ
  rw [f_X11_fly] at hf
  refine j_iload_n X dX11_fly_0 rfl rfl ?_
  obtain ⟨q1, g_q1, hf⟩ := ob_t hf
  refine j_callS X [] (c_X11_isPost E g_q1) rfl rfl rfl (ws' := (wX E h g μ)) rfl k_500 k_501 k_68 k_502 (⟨rfl, rfl⟩) hdS_X11_isPost ⟨Nat.le_of_ble_eq_true rfl, Nat.le_of_ble_eq_true rfl⟩ rfl (Nat.le_of_ble_eq_true rfl) rfl dX11_fly_1 ?_
  refine j_if_ne (tgt := 13) X dX11_fly_4 (by decide) (fun c_4 => ?_) (fun c_4 => ?_)
  · replace hf := (if_neg c_4).symm.trans hf
    refine j_aload_n X dX11_fly_13 rfl rfl ?_
    refine j_get (C := RX11) (T := TX11) (N := 10) X iX11 0 (wX_0 ..) rfl 0 (by decide) k_310 rfl rfl dX11_fly_14 ?_
    refine j_get (C := RX5) (T := TX5) (N := 8) X iX5 1 (wX_1 ..) rfl 2 (by decide) k_239 rfl rfl dX11_fly_17 ?_
    refine j_iload_n X dX11_fly_20 rfl rfl ?_
    obtain ⟨q2, g_q2, hf⟩ := ob_t hf
    obtain ⟨μ3, e_μ3, hf⟩ := bd_e hf
    refine j_callV X [23, 24, 25, 26, 27, 28, 7, 8, 9, 10, 11, 12, 13, 14, 66, 67, 68, 69, 70, 71, 72, 73] 0 (c_X4_flyAt E (fun j => h (List.getD [23, 24, 25, 26, 27, 28, 7, 8, 9, 10, 11, 12, 13, 14, 66, 67, 68, 69, 70, 71, 72, 73] j 0)) (fun j => g (List.getD [0, 1] j 0)) g_q2) (cut_wX_wR_23_24_25_c ..) rfl rfl (ws' := (wX E h g μ3)) (by rw [e_μ3]; exact cut_wX_wR_23_24_25_w ..) (wR_0 ..) rfl k_603 k_604 k_605 k_78 k_606 (⟨rfl, rfl⟩) hdV_X4_flyAt ⟨Nat.le_of_ble_eq_true rfl, Nat.le_of_ble_eq_true rfl⟩ rfl (Nat.le_of_ble_eq_true rfl) rfl dX11_fly_21 ?_
    obtain rfl := Option.some.inj hf
    exact j_iret X hr hlk rfl dX11_fly_24 hQ
  · replace hf := (if_pos c_4).symm.trans hf
    refine j_aload_n X dX11_fly_7 rfl rfl ?_
    refine j_iconst (v := (1 : Int32)) X dX11_fly_8 (by decide) ?_
    obtain ⟨q4, g_q4, hf⟩ := ob_t hf
    refine j_callV X [0, 1, 2, 3, 4, 5, 6, 7, 8, 9, 10, 11, 12, 13, 14, 15, 16, 17, 18, 19, 20, 21, 22, 23, 24, 25, 26, 27, 28, 29, 30, 31, 32, 33, 34, 35, 36, 37, 38, 39, 40, 41, 42, 43, 44, 45, 46, 47, 48, 49, 50, 51, 52, 53, 54, 55, 56, 57, 58, 59, 60, 61, 62, 63, 64, 65, 66, 67, 68, 69, 70, 71, 72, 73, 74, 75, 76, 77, 78, 79, 80, 81, 82, 83, 84] 0 (c_X11_fails E h g g_q4) (cut_wX_wX_c ..) rfl rfl (ws' := (wX E h g q4.1)) (cut_wX_wX_w ..) (wX_0 ..) rfl k_351 k_353 k_0 k_68 k_354 (⟨rfl, rfl⟩) hdV_X11_fails ⟨Nat.le_of_ble_eq_true rfl, Nat.le_of_ble_eq_true rfl⟩ rfl (Nat.le_of_ble_eq_true rfl) rfl dX11_fly_9 ?_
    obtain rfl := Option.some.inj hf
    exact j_iret X hr hlk rfl dX11_fly_12 hQ
def f_X11_poke (μ : Mem) (x1 : Int32) : Option (Mem × Int32) := (f_X11_isStander x1).bind fun q1 => ((if q1 = 0 then (f_X11_fails μ (1 : Int32)).bind fun q7 => (some (q7.1, q7.2)) else (f_X4_stands (sub [23, 24, 25, 26, 27, 28, 7, 8, 9, 10, 11, 12, 13, 14, 66, 67, 68, 69, 70, 71, 72, 73] μ) x1).bind fun q2 => (bd (put [23, 24, 25, 26, 27, 28, 7, 8, 9, 10, 11, 12, 13, 14, 66, 67, 68, 69, 70, 71, 72, 73] μ q2.1) fun μ3 => ((if q2.2 = 0 then (f_X11_fails μ3 (3 : Int32)).bind fun q6 => (some (q6.1, q6.2)) else (f_X4_pokeOne (sub [23, 24, 25, 26, 27, 28, 7, 8, 9, 10, 11, 12, 13, 14, 66, 67, 68, 69, 70, 71, 72, 73] μ3) x1).bind fun q4 => (bd (put [23, 24, 25, 26, 27, 28, 7, 8, 9, 10, 11, 12, 13, 14, 66, 67, 68, 69, 70, 71, 72, 73] μ3 q4.1) fun μ5 => (some (μ5, q4.2))))))))
set_option maxHeartbeats 4000000 in
set_option maxRecDepth 20000 in
theorem c_X11_poke (E : Ev) (h : Nat → Nat) (g : Nat → Option Nat) {μ : Mem} {x1 : Int32} {r : (Mem × Int32)} (hf : f_X11_poke μ x1 = some r) : Ct E yX11_poke cX11_poke 2 (some .int) (rmOf 5 114) (wX E h g μ) (wX E h g r.1) [.ref (h 0), .int x1] (some (.int r.2)) := by
  refine ct_start RX11 0 (by decide) rfl (Nat.le_of_ble_eq_true rfl) ?_
  intro p l e s m args below meth c A Q X hr hlk hQ
  rw [f_X11_poke] at hf
  refine j_iload_n X dX11_poke_0 rfl rfl ?_
  obtain ⟨q1, g_q1, hf⟩ := ob_t hf
  refine j_callS X [] (c_X11_isStander E g_q1) rfl rfl rfl (ws' := (wX E h g μ)) rfl k_345 k_346 k_68 k_347 (⟨rfl, rfl⟩) hdS_X11_isStander ⟨Nat.le_of_ble_eq_true rfl, Nat.le_of_ble_eq_true rfl⟩ rfl (Nat.le_of_ble_eq_true rfl) rfl dX11_poke_1 ?_
  refine j_if_ne (tgt := 13) X dX11_poke_4 (by decide) (fun c_4 => ?_) (fun c_4 => ?_)
  · replace hf := (if_neg c_4).symm.trans hf
    refine j_aload_n X dX11_poke_13 rfl rfl ?_
    refine j_get (C := RX11) (T := TX11) (N := 10) X iX11 0 (wX_0 ..) rfl 0 (by decide) k_310 rfl rfl dX11_poke_14 ?_
    refine j_get (C := RX5) (T := TX5) (N := 8) X iX5 1 (wX_1 ..) rfl 2 (by decide) k_239 rfl rfl dX11_poke_17 ?_
    refine j_iload_n X dX11_poke_20 rfl rfl ?_
    obtain ⟨q2, g_q2, hf⟩ := ob_t hf
    obtain ⟨μ3, e_μ3, hf⟩ := bd_e hf
    refine j_callV X [23, 24, 25, 26, 27, 28, 7, 8, 9, 10, 11, 12, 13, 14, 66, 67, 68, 69, 70, 71, 72, 73] 0 (c_X4_stands E (fun j => h (List.getD [23, 24, 25, 26, 27, 28, 7, 8, 9, 10, 11, 12, 13, 14, 66, 67, 68, 69, 70, 71, 72, 73] j 0)) (fun j => g (List.getD [0, 1] j 0)) g_q2) (cut_wX_wR_23_24_25_c ..) rfl rfl (ws' := (wX E h g μ3)) (by rw [e_μ3]; exact cut_wX_wR_23_24_25_w ..) (wR_0 ..) rfl k_454 k_455 k_456 k_78 k_457 (⟨rfl, rfl⟩) hdV_X4_stands ⟨Nat.le_of_ble_eq_true rfl, Nat.le_of_ble_eq_true rfl⟩ rfl (Nat.le_of_ble_eq_true rfl) rfl dX11_poke_21 ?_
    refine j_if_ne (tgt := 33) X dX11_poke_24 (by decide) (fun c_24 => ?_) (fun c_24 => ?_)
    · replace hf := (if_neg c_24).symm.trans hf
      refine j_aload_n X dX11_poke_33 rfl rfl ?_
      refine j_get (C := RX11) (T := TX11) (N := 10) X iX11 0 (wX_0 ..) rfl 0 (by decide) k_310 rfl rfl dX11_poke_34 ?_
      refine j_get (C := RX5) (T := TX5) (N := 8) X iX5 1 (wX_1 ..) rfl 2 (by decide) k_239 rfl rfl dX11_poke_37 ?_
      refine j_iload_n X dX11_poke_40 rfl rfl ?_
      obtain ⟨q4, g_q4, hf⟩ := ob_t hf
      obtain ⟨μ5, e_μ5, hf⟩ := bd_e hf
      refine j_callV X [23, 24, 25, 26, 27, 28, 7, 8, 9, 10, 11, 12, 13, 14, 66, 67, 68, 69, 70, 71, 72, 73] 0 (c_X4_pokeOne E (fun j => h (List.getD [23, 24, 25, 26, 27, 28, 7, 8, 9, 10, 11, 12, 13, 14, 66, 67, 68, 69, 70, 71, 72, 73] j 0)) (fun j => g (List.getD [0, 1] j 0)) g_q4) (cut_wX_wR_23_24_25_c ..) rfl rfl (ws' := (wX E h g μ5)) (by rw [e_μ5]; exact cut_wX_wR_23_24_25_w ..) (wR_0 ..) rfl k_613 k_614 k_615 k_78 k_616 (⟨rfl, rfl⟩) hdV_X4_pokeOne ⟨Nat.le_of_ble_eq_true rfl, Nat.le_of_ble_eq_true rfl⟩ rfl (Nat.le_of_ble_eq_true rfl) rfl dX11_poke_41 ?_
      obtain rfl := Option.some.inj hf
      exact j_iret X hr hlk rfl dX11_poke_44 hQ
    · replace hf := (if_pos c_24).symm.trans hf
      refine j_aload_n X dX11_poke_27 rfl rfl ?_
      refine j_iconst (v := (3 : Int32)) X dX11_poke_28 (by decide) ?_
      obtain ⟨q6, g_q6, hf⟩ := ob_t hf
      refine j_callV X [0, 1, 2, 3, 4, 5, 6, 7, 8, 9, 10, 11, 12, 13, 14, 15, 16, 17, 18, 19, 20, 21, 22, 23, 24, 25, 26, 27, 28, 29, 30, 31, 32, 33, 34, 35, 36, 37, 38, 39, 40, 41, 42, 43, 44, 45, 46, 47, 48, 49, 50, 51, 52, 53, 54, 55, 56, 57, 58, 59, 60, 61, 62, 63, 64, 65, 66, 67, 68, 69, 70, 71, 72, 73, 74, 75, 76, 77, 78, 79, 80, 81, 82, 83, 84] 0 (c_X11_fails E h g g_q6) (cut_wX_wX_c ..) rfl rfl (ws' := (wX E h g q6.1)) (cut_wX_wX_w ..) (wX_0 ..) rfl k_351 k_353 k_0 k_68 k_354 (⟨rfl, rfl⟩) hdV_X11_fails ⟨Nat.le_of_ble_eq_true rfl, Nat.le_of_ble_eq_true rfl⟩ rfl (Nat.le_of_ble_eq_true rfl) rfl dX11_poke_29 ?_
      obtain rfl := Option.some.inj hf
      exact j_iret X hr hlk rfl dX11_poke_32 hQ
  · replace hf := (if_pos c_4).symm.trans hf
    refine j_aload_n X dX11_poke_7 rfl rfl ?_
    refine j_iconst (v := (1 : Int32)) X dX11_poke_8 (by decide) ?_
    obtain ⟨q7, g_q7, hf⟩ := ob_t hf
    refine j_callV X [0, 1, 2, 3, 4, 5, 6, 7, 8, 9, 10, 11, 12, 13, 14, 15, 16, 17, 18, 19, 20, 21, 22, 23, 24, 25, 26, 27, 28, 29, 30, 31, 32, 33, 34, 35, 36, 37, 38, 39, 40, 41, 42, 43, 44, 45, 46, 47, 48, 49, 50, 51, 52, 53, 54, 55, 56, 57, 58, 59, 60, 61, 62, 63, 64, 65, 66, 67, 68, 69, 70, 71, 72, 73, 74, 75, 76, 77, 78, 79, 80, 81, 82, 83, 84] 0 (c_X11_fails E h g g_q7) (cut_wX_wX_c ..) rfl rfl (ws' := (wX E h g q7.1)) (cut_wX_wX_w ..) (wX_0 ..) rfl k_351 k_353 k_0 k_68 k_354 (⟨rfl, rfl⟩) hdV_X11_fails ⟨Nat.le_of_ble_eq_true rfl, Nat.le_of_ble_eq_true rfl⟩ rfl (Nat.le_of_ble_eq_true rfl) rfl dX11_poke_9 ?_
    obtain rfl := Option.some.inj hf
    exact j_iret X hr hlk rfl dX11_poke_12 hQ
def f_X11_draws_L20 : Nat → Mem → Int32 → Int32 → Int32 → Option (Mem × Int32)
  | 0, _, _, _, _ => none
  | n + 1, μ, x1, x2, x3 => (if x1 ≤ x3 then some (μ, x2) else (f_X5_draw (sub [1] μ)).bind fun q2 => (bd (put [1] μ q2.1) fun μ3 => ((f_X4_flyAt (sub [23, 24, 25, 26, 27, 28, 7, 8, 9, 10, 11, 12, 13, 14, 66, 67, 68, 69, 70, 71, 72, 73] μ3) (q2.2 - q2.2 / (9 : Int32) * (9 : Int32))).bind fun q4 => (bd (put [23, 24, 25, 26, 27, 28, 7, 8, 9, 10, 11, 12, 13, 14, 66, 67, 68, 69, 70, 71, 72, 73] μ3 q4.1) fun μ5 => (bd (x2 + q4.2) fun y6 => ((f_X11_draws_L20 n) μ5 x1 y6 (x3 + (1 : Int32))))))))
def f_X11_draws (μ : Mem) (x1 : Int32) : Option (Mem × Int32) := (f_X11_within x1 (1 : Int32) (60 : Int32)).bind fun q1 => ((if q1 = 0 then (f_X11_fails μ (1 : Int32)).bind fun q7 => (some (q7.1, q7.2)) else f_X11_draws_L20 fuel0 μ x1 (0 : Int32) (0 : Int32)))
set_option maxHeartbeats 4000000 in
set_option maxRecDepth 20000 in
theorem c_X11_draws (E : Ev) (h : Nat → Nat) (g : Nat → Option Nat) {μ : Mem} {x1 : Int32} {r : (Mem × Int32)} (hf : f_X11_draws μ x1 = some r) : Ct E yX11_draws cX11_draws 4 (some .int) (rmOf 5 115) (wX E h g μ) (wX E h g r.1) [.ref (h 0), .int x1] (some (.int r.2)) := by
  refine ct_start RX11 2 (by decide) rfl (Nat.le_of_ble_eq_true rfl) ?_
  intro p l e s m args below meth c A Q X hr hlk hQ
  have lab20 : ∀ (n : Nat) (μ : Mem) (x1 : Int32) (x2 : Int32) (x3 : Int32), f_X11_draws_L20 n μ x1 x2 x3 = some r → J p l e (rmOf 5 115) s m args below meth c E A 4 Q (wX E h g μ) [some (.ref (h 0)), some (.int x1), some (.int x2), some (.int x3)] 20 [] := by
    intro n
    induction n with
    | zero => intro μ x1 x2 x3 hf; cases (show none = some r from hf)
    | succ n ih =>
      intro μ x1 x2 x3 hf
      rw [f_X11_draws_L20] at hf
      refine j_iload_n X dX11_draws_20 rfl rfl ?_
      refine j_iload_n X dX11_draws_21 rfl rfl ?_
      refine j_icmp_ge (tgt := 54) X dX11_draws_22 (by decide) (fun c_22 => ?_) (fun c_22 => ?_)
      · replace hf := (if_pos c_22).symm.trans hf
        refine j_iload_n X dX11_draws_54 rfl rfl ?_
        obtain rfl := Option.some.inj hf
        exact j_iret X hr hlk rfl dX11_draws_55 hQ
      · replace hf := (if_neg c_22).symm.trans hf
        refine j_iload_n X dX11_draws_25 rfl rfl ?_
        refine j_aload_n X dX11_draws_26 rfl rfl ?_
        refine j_get (C := RX11) (T := TX11) (N := 10) X iX11 0 (wX_0 ..) rfl 0 (by decide) k_310 rfl rfl dX11_draws_27 ?_
        refine j_get (C := RX5) (T := TX5) (N := 8) X iX5 1 (wX_1 ..) rfl 2 (by decide) k_239 rfl rfl dX11_draws_30 ?_
        refine j_aload_n X dX11_draws_33 rfl rfl ?_
        refine j_get (C := RX11) (T := TX11) (N := 10) X iX11 0 (wX_0 ..) rfl 0 (by decide) k_310 rfl rfl dX11_draws_34 ?_
        obtain ⟨q2, g_q2, hf⟩ := ob_t hf
        obtain ⟨μ3, e_μ3, hf⟩ := bd_e hf
        refine j_callV X [1] 0 (c_X5_draw E (fun j => h (List.getD [1, 7, 11, 23, 2, 3] j 0)) (fun j => g (List.getD [] j 0)) g_q2) (cut_wX_wZ_1_7_11_c ..) rfl rfl (ws' := (wX E h g μ3)) (by rw [e_μ3]; exact cut_wX_wZ_1_7_11_w ..) (wZ_0 ..) rfl k_621 k_622 k_623 k_76 k_624 (⟨rfl, rfl⟩) hdV_X5_draw ⟨Nat.le_of_ble_eq_true rfl, Nat.le_of_ble_eq_true rfl⟩ rfl (Nat.le_of_ble_eq_true rfl) rfl dX11_draws_37 ?_
        refine j_bipush (v := (9 : Int32)) X dX11_draws_40 (by decide) ?_
        refine j_irem X dX11_draws_42 (by decide) ?_
        obtain ⟨q4, g_q4, hf⟩ := ob_t hf
        obtain ⟨μ5, e_μ5, hf⟩ := bd_e hf
        refine j_callV X [23, 24, 25, 26, 27, 28, 7, 8, 9, 10, 11, 12, 13, 14, 66, 67, 68, 69, 70, 71, 72, 73] 0 (c_X4_flyAt E (fun j => h (List.getD [23, 24, 25, 26, 27, 28, 7, 8, 9, 10, 11, 12, 13, 14, 66, 67, 68, 69, 70, 71, 72, 73] j 0)) (fun j => g (List.getD [0, 1] j 0)) g_q4) (cut_wX_wR_23_24_25_c ..) rfl rfl (ws' := (wX E h g μ5)) (by rw [e_μ5]; exact cut_wX_wR_23_24_25_w ..) (wR_0 ..) rfl k_603 k_604 k_605 k_78 k_606 (⟨rfl, rfl⟩) hdV_X4_flyAt ⟨Nat.le_of_ble_eq_true rfl, Nat.le_of_ble_eq_true rfl⟩ rfl (Nat.le_of_ble_eq_true rfl) rfl dX11_draws_43 ?_
        refine j_iadd X dX11_draws_46 ?_
        obtain ⟨y6, e_y6, hf⟩ := bd_e hf
        refine j_top e_y6 ?_
        refine j_istore_n2 X dX11_draws_47 rfl (by decide) rfl ?_
        refine j_iinc3 (k := (1 : Int32)) X dX11_draws_48 (by decide) (by decide) rfl ?_
        refine j_goto (tgt := 20) X dX11_draws_51 (by decide) ?_
        refine j_keep [true, true, true, true] rfl ?_
        exact ih _ _ _ _ hf
  rw [f_X11_draws] at hf
  refine j_iload_n X dX11_draws_0 rfl rfl ?_
  refine j_iconst (v := (1 : Int32)) X dX11_draws_1 (by decide) ?_
  refine j_bipush (v := (60 : Int32)) X dX11_draws_2 (by decide) ?_
  obtain ⟨q1, g_q1, hf⟩ := ob_t hf
  refine j_callS X [] (c_X11_within E g_q1) rfl rfl rfl (ws' := (wX E h g μ)) rfl k_348 k_349 k_68 k_350 (⟨rfl, rfl⟩) hdS_X11_within ⟨Nat.le_of_ble_eq_true rfl, Nat.le_of_ble_eq_true rfl⟩ rfl (Nat.le_of_ble_eq_true rfl) rfl dX11_draws_4 ?_
  refine j_if_ne (tgt := 16) X dX11_draws_7 (by decide) (fun c_7 => ?_) (fun c_7 => ?_)
  · replace hf := (if_neg c_7).symm.trans hf
    refine j_iconst (v := (0 : Int32)) X dX11_draws_16 (by decide) ?_
    refine j_istore_n2 X dX11_draws_17 rfl (by decide) rfl ?_
    refine j_iconst (v := (0 : Int32)) X dX11_draws_18 (by decide) ?_
    refine j_istore_n3 X dX11_draws_19 rfl (by decide) rfl ?_
    refine j_keep [true, true, true, true] rfl ?_
    exact lab20 _ _ _ _ _ hf
  · replace hf := (if_pos c_7).symm.trans hf
    refine j_aload_n X dX11_draws_10 rfl rfl ?_
    refine j_iconst (v := (1 : Int32)) X dX11_draws_11 (by decide) ?_
    obtain ⟨q7, g_q7, hf⟩ := ob_t hf
    refine j_callV X [0, 1, 2, 3, 4, 5, 6, 7, 8, 9, 10, 11, 12, 13, 14, 15, 16, 17, 18, 19, 20, 21, 22, 23, 24, 25, 26, 27, 28, 29, 30, 31, 32, 33, 34, 35, 36, 37, 38, 39, 40, 41, 42, 43, 44, 45, 46, 47, 48, 49, 50, 51, 52, 53, 54, 55, 56, 57, 58, 59, 60, 61, 62, 63, 64, 65, 66, 67, 68, 69, 70, 71, 72, 73, 74, 75, 76, 77, 78, 79, 80, 81, 82, 83, 84] 0 (c_X11_fails E h g g_q7) (cut_wX_wX_c ..) rfl rfl (ws' := (wX E h g q7.1)) (cut_wX_wX_w ..) (wX_0 ..) rfl k_351 k_353 k_0 k_68 k_354 (⟨rfl, rfl⟩) hdV_X11_fails ⟨Nat.le_of_ble_eq_true rfl, Nat.le_of_ble_eq_true rfl⟩ rfl (Nat.le_of_ble_eq_true rfl) rfl dX11_draws_12 ?_
    obtain rfl := Option.some.inj hf
    exact j_iret X hr hlk rfl dX11_draws_15 hQ
def f_X11_seed (μ : Mem) (x1 : Int32) : Option (Mem × Int32) := bd (μ 1 7) fun y1 => (bd (upA μ 1 (upd (μ 1) 7 x1)) fun μ2 => (some (μ2, y1)))
set_option maxHeartbeats 4000000 in
set_option maxRecDepth 20000 in
theorem c_X11_seed (E : Ev) (h : Nat → Nat) (g : Nat → Option Nat) {μ : Mem} {x1 : Int32} {r : (Mem × Int32)} (hf : f_X11_seed μ x1 = some r) : Ct E yX11_seed cX11_seed 3 (some .int) (rmOf 0 0) (wX E h g μ) (wX E h g r.1) [.ref (h 0), .int x1] (some (.int r.2)) := by
  refine ct_start RX11 1 (by decide) rfl (Nat.le_of_ble_eq_true rfl) ?_
  intro p l e s m args below meth c A Q X hr hlk hQ
  rw [f_X11_seed] at hf
  refine j_aload_n X dX11_seed_0 rfl rfl ?_
  refine j_get (C := RX11) (T := TX11) (N := 10) X iX11 0 (wX_0 ..) rfl 0 (by decide) k_310 rfl rfl dX11_seed_1 ?_
  refine j_get (C := RX5) (T := TX5) (N := 8) X iX5 1 (wX_1 ..) rfl 7 (by decide) k_249 rfl rfl dX11_seed_4 ?_
  obtain ⟨y1, e_y1, hf⟩ := bd_e hf
  refine j_top e_y1 ?_
  refine j_istore_n2 X dX11_seed_7 rfl (by decide) rfl ?_
  refine j_aload_n X dX11_seed_8 rfl rfl ?_
  refine j_get (C := RX11) (T := TX11) (N := 10) X iX11 0 (wX_0 ..) rfl 0 (by decide) k_310 rfl rfl dX11_seed_9 ?_
  refine j_iload_n X dX11_seed_12 rfl rfl ?_
  obtain ⟨μ2, e_μ2, hf⟩ := bd_e hf
  refine j_put (C := RX5) (T := TX5) (N := 8) X iX5 1 (wX_1 ..) rfl 7 (by decide) k_249 rfl tyX5 tyX5_ok nmX5 rfl (ty := .int) (by decide +kernel) rfl rfl (Nat.le_of_ble_eq_true rfl) dX11_seed_13 (ws' := (wX E h g μ2)) (by rw [e_μ2]; exact wX_f1_7 ..) ?_
  refine j_iload_n X dX11_seed_16 rfl rfl ?_
  obtain rfl := Option.some.inj hf
  exact j_iret X hr hlk rfl dX11_seed_17 hQ
theorem cut_wX_wRC_35_36_37_c (E : Ev) (h : Nat → Nat) (g : Nat → Option Nat) (μ : Mem) : ([35, 36, 37, 38, 39, 40, 23, 24, 25, 26, 27, 28] : List Nat).map (fun i => (wX E h g μ)[i]?) = (wRC E (fun j => h (List.getD [35, 36, 37, 38, 39, 40, 23, 24, 25, 26, 27, 28, 7, 11, 66, 7, 11, 66] j 0)) (fun j => g (List.getD ([] : List Nat) j 0)) (sub [35, 36, 37, 38, 39, 40, 23, 24, 25, 26, 27, 28] μ)).map some := rfl
theorem cut_wX_wRC_35_36_37_w (E : Ev) (h : Nat → Nat) (g : Nat → Option Nat) (μ : Mem) (ν : Mem) : putW (wX E h g μ) [35, 36, 37, 38, 39, 40, 23, 24, 25, 26, 27, 28] (wRC E (fun j => h (List.getD [35, 36, 37, 38, 39, 40, 23, 24, 25, 26, 27, 28, 7, 11, 66, 7, 11, 66] j 0)) (fun j => g (List.getD ([] : List Nat) j 0)) ν) = wX E h g (put [35, 36, 37, 38, 39, 40, 23, 24, 25, 26, 27, 28] μ ν) := putW_A (by decide +kernel) rfl rfl
theorem cut_wX_wR_35_36_37_c (E : Ev) (h : Nat → Nat) (g : Nat → Option Nat) (μ : Mem) : ([35, 36, 37, 38, 39, 40, 7, 8, 9, 10, 11, 12, 13, 14, 66, 67, 68, 69, 70, 71, 72, 73] : List Nat).map (fun i => (wX E h g μ)[i]?) = (wR E (fun j => h (List.getD [35, 36, 37, 38, 39, 40, 7, 8, 9, 10, 11, 12, 13, 14, 66, 67, 68, 69, 70, 71, 72, 73] j 0)) (fun j => g (List.getD [0, 1] j 0)) (sub [35, 36, 37, 38, 39, 40, 7, 8, 9, 10, 11, 12, 13, 14, 66, 67, 68, 69, 70, 71, 72, 73] μ)).map some := rfl
theorem cut_wX_wR_35_36_37_w (E : Ev) (h : Nat → Nat) (g : Nat → Option Nat) (μ : Mem) (ν : Mem) : putW (wX E h g μ) [35, 36, 37, 38, 39, 40, 7, 8, 9, 10, 11, 12, 13, 14, 66, 67, 68, 69, 70, 71, 72, 73] (wR E (fun j => h (List.getD [35, 36, 37, 38, 39, 40, 7, 8, 9, 10, 11, 12, 13, 14, 66, 67, 68, 69, 70, 71, 72, 73] j 0)) (fun j => g (List.getD [0, 1] j 0)) ν) = wX E h g (put [35, 36, 37, 38, 39, 40, 7, 8, 9, 10, 11, 12, 13, 14, 66, 67, 68, 69, 70, 71, 72, 73] μ ν) := putW_A (by decide +kernel) rfl rfl
def f_X11_lookAhead (μ : Mem) (x1 : Int32) : Option Mem := (f_X4_copyFrom (sub [35, 36, 37, 38, 39, 40, 23, 24, 25, 26, 27, 28] μ)).bind fun q1 => (bd (put [35, 36, 37, 38, 39, 40, 23, 24, 25, 26, 27, 28] μ q1) fun μ2 => ((f_X4_pass (sub [35, 36, 37, 38, 39, 40, 7, 8, 9, 10, 11, 12, 13, 14, 66, 67, 68, 69, 70, 71, 72, 73] μ2) x1).bind fun q3 => (bd (put [35, 36, 37, 38, 39, 40, 7, 8, 9, 10, 11, 12, 13, 14, 66, 67, 68, 69, 70, 71, 72, 73] μ2 q3.1) fun μ4 => (some μ4))))
set_option maxHeartbeats 4000000 in
set_option maxRecDepth 20000 in
theorem c_X11_lookAhead (E : Ev) (h : Nat → Nat) (g : Nat → Option Nat) {μ : Mem} {x1 : Int32} {r : Mem} (hf : f_X11_lookAhead μ x1 = some r) : Ct E yX11_lookAhead cX11_lookAhead 2 none (rmOf 6 137) (wX E h g μ) (wX E h g r) [.ref (h 0), .int x1] none := by
  refine ct_start RX11 0 (by decide) rfl (Nat.le_of_ble_eq_true rfl) ?_
  intro p l e s m args below meth c A Q X hr hlk hQ
  rw [f_X11_lookAhead] at hf
  refine j_aload_n X dX11_lookAhead_0 rfl rfl ?_
  refine j_get (C := RX11) (T := TX11) (N := 10) X iX11 0 (wX_0 ..) rfl 2 (by decide) k_312 rfl rfl dX11_lookAhead_1 ?_
  refine j_aload_n X dX11_lookAhead_4 rfl rfl ?_
  refine j_get (C := RX11) (T := TX11) (N := 10) X iX11 0 (wX_0 ..) rfl 0 (by decide) k_310 rfl rfl dX11_lookAhead_5 ?_
  refine j_get (C := RX5) (T := TX5) (N := 8) X iX5 1 (wX_1 ..) rfl 2 (by decide) k_239 rfl rfl dX11_lookAhead_8 ?_
  obtain ⟨q1, g_q1, hf⟩ := ob_t hf
  obtain ⟨μ2, e_μ2, hf⟩ := bd_e hf
  refine j_callV X [35, 36, 37, 38, 39, 40, 23, 24, 25, 26, 27, 28] 0 (c_X4_copyFrom E (fun j => h (List.getD [35, 36, 37, 38, 39, 40, 23, 24, 25, 26, 27, 28, 7, 11, 66, 7, 11, 66] j 0)) (fun j => g (List.getD [] j 0)) g_q1) (cut_wX_wRC_35_36_37_c ..) rfl rfl (ws' := (wX E h g μ2)) (by rw [e_μ2]; exact cut_wX_wRC_35_36_37_w ..) (wRC_0 ..) rfl k_638 k_639 k_640 k_78 k_641 (⟨rfl, rfl⟩) hdV_X4_copyFrom ⟨Nat.le_of_ble_eq_true rfl, Nat.le_of_ble_eq_true rfl⟩ rfl (Nat.le_of_ble_eq_true rfl) rfl dX11_lookAhead_11 ?_
  refine j_aload_n X dX11_lookAhead_14 rfl rfl ?_
  refine j_get (C := RX11) (T := TX11) (N := 10) X iX11 0 (wX_0 ..) rfl 2 (by decide) k_312 rfl rfl dX11_lookAhead_15 ?_
  refine j_iload_n X dX11_lookAhead_18 rfl rfl ?_
  obtain ⟨q3, g_q3, hf⟩ := ob_t hf
  obtain ⟨μ4, e_μ4, hf⟩ := bd_e hf
  refine j_callV X [35, 36, 37, 38, 39, 40, 7, 8, 9, 10, 11, 12, 13, 14, 66, 67, 68, 69, 70, 71, 72, 73] 0 (c_X4_pass E (fun j => h (List.getD [35, 36, 37, 38, 39, 40, 7, 8, 9, 10, 11, 12, 13, 14, 66, 67, 68, 69, 70, 71, 72, 73] j 0)) (fun j => g (List.getD [0, 1] j 0)) g_q3) (cut_wX_wR_35_36_37_c ..) rfl rfl (ws' := (wX E h g μ4)) (by rw [e_μ4]; exact cut_wX_wR_35_36_37_w ..) (wR_0 ..) rfl k_589 k_590 k_591 k_78 k_592 (⟨rfl, rfl⟩) hdV_X4_pass ⟨Nat.le_of_ble_eq_true rfl, Nat.le_of_ble_eq_true rfl⟩ rfl (Nat.le_of_ble_eq_true rfl) rfl dX11_lookAhead_19 ?_
  refine j_pop X dX11_lookAhead_22 rfl ?_
  obtain rfl := Option.some.inj hf
  exact j_vret X hr hlk dX11_lookAhead_23 hQ
def f_X11_then (μ : Mem) (x1 : Int32) (x2 : Int32) (x3 : Int32) : Option (Mem × Int32) := (f_X11_within x1 (0 : Int32) (200 : Int32)).bind fun q1 => ((if q1 = 0 then (f_X11_fails μ (1 : Int32)).bind fun q2 => (some (q2.1, q2.2)) else (f_X11_isStander x2).bind fun q3 => ((if q3 = 0 then (f_X11_fails μ (1 : Int32)).bind fun q4 => (some (q4.1, q4.2)) else (f_X11_within x3 (2 : Int32) (4 : Int32)).bind fun q5 => ((if q5 = 0 then (f_X11_fails μ (1 : Int32)).bind fun q9 => (some (q9.1, q9.2)) else (f_X11_lookAhead μ x1).bind fun q6 => ((f_X4_is (sub [35, 36, 37, 38, 39, 40, 7, 8, 9, 10, 11, 12, 13, 14, 66, 67, 68, 69, 70, 71, 72, 73] q6) x2 x3).bind fun q7 => (bd (put [35, 36, 37, 38, 39, 40, 7, 8, 9, 10, 11, 12, 13, 14, 66, 67, 68, 69, 70, 71, 72, 73] q6 q7.1) fun μ8 => (some (μ8, q7.2))))))))))
set_option maxHeartbeats 4000000 in
set_option maxRecDepth 20000 in
theorem c_X11_then (E : Ev) (h : Nat → Nat) (g : Nat → Option Nat) {μ : Mem} {x1 : Int32} {x2 : Int32} {x3 : Int32} {r : (Mem × Int32)} (hf : f_X11_then μ x1 x2 x3 = some r) : Ct E yX11_then cX11_then 4 (some .int) (rmOf 7 158) (wX E h g μ) (wX E h g r.1) [.ref (h 0), .int x1, .int x2, .int x3] (some (.int r.2)) := by
  refine ct_start RX11 0 (by decide) rfl (Nat.le_of_ble_eq_true rfl) ?_
  intro p l e s m args below meth c A Q X hr hlk hQ
  rw [f_X11_then] at hf
  refine j_iload_n X dX11_then_0 rfl rfl ?_
  refine j_iconst (v := (0 : Int32)) X dX11_then_1 (by decide) ?_
  refine j_sipush (v := (200 : Int32)) X dX11_then_2 (by decide) ?_
  obtain ⟨q1, g_q1, hf⟩ := ob_t hf
  refine j_callS X [] (c_X11_within E g_q1) rfl rfl rfl (ws' := (wX E h g μ)) rfl k_348 k_349 k_68 k_350 (⟨rfl, rfl⟩) hdS_X11_within ⟨Nat.le_of_ble_eq_true rfl, Nat.le_of_ble_eq_true rfl⟩ rfl (Nat.le_of_ble_eq_true rfl) rfl dX11_then_5 ?_
  refine j_if_eq (tgt := 27) X dX11_then_8 (by decide) (fun c_8 => ?_) (fun c_8 => ?_)
  · replace hf := (if_pos c_8).symm.trans hf
    refine j_aload_n X dX11_then_27 rfl rfl ?_
    refine j_iconst (v := (1 : Int32)) X dX11_then_28 (by decide) ?_
    obtain ⟨q2, g_q2, hf⟩ := ob_t hf
    refine j_callV X [0, 1, 2, 3, 4, 5, 6, 7, 8, 9, 10, 11, 12, 13, 14, 15, 16, 17, 18, 19, 20, 21, 22, 23, 24, 25, 26, 27, 28, 29, 30, 31, 32, 33, 34, 35, 36, 37, 38, 39, 40, 41, 42, 43, 44, 45, 46, 47, 48, 49, 50, 51, 52, 53, 54, 55, 56, 57, 58, 59, 60, 61, 62, 63, 64, 65, 66, 67, 68, 69, 70, 71, 72, 73, 74, 75, 76, 77, 78, 79, 80, 81, 82, 83, 84] 0 (c_X11_fails E h g g_q2) (cut_wX_wX_c ..) rfl rfl (ws' := (wX E h g q2.1)) (cut_wX_wX_w ..) (wX_0 ..) rfl k_351 k_353 k_0 k_68 k_354 (⟨rfl, rfl⟩) hdV_X11_fails ⟨Nat.le_of_ble_eq_true rfl, Nat.le_of_ble_eq_true rfl⟩ rfl (Nat.le_of_ble_eq_true rfl) rfl dX11_then_29 ?_
    obtain rfl := Option.some.inj hf
    exact j_iret X hr hlk rfl dX11_then_32 hQ
  · replace hf := (if_neg c_8).symm.trans hf
    refine j_iload_n X dX11_then_11 rfl rfl ?_
    obtain ⟨q3, g_q3, hf⟩ := ob_t hf
    refine j_callS X [] (c_X11_isStander E g_q3) rfl rfl rfl (ws' := (wX E h g μ)) rfl k_345 k_346 k_68 k_347 (⟨rfl, rfl⟩) hdS_X11_isStander ⟨Nat.le_of_ble_eq_true rfl, Nat.le_of_ble_eq_true rfl⟩ rfl (Nat.le_of_ble_eq_true rfl) rfl dX11_then_12 ?_
    refine j_if_eq (tgt := 27) X dX11_then_15 (by decide) (fun c_15 => ?_) (fun c_15 => ?_)
    · replace hf := (if_pos c_15).symm.trans hf
      refine j_aload_n X dX11_then_27 rfl rfl ?_
      refine j_iconst (v := (1 : Int32)) X dX11_then_28 (by decide) ?_
      obtain ⟨q4, g_q4, hf⟩ := ob_t hf
      refine j_callV X [0, 1, 2, 3, 4, 5, 6, 7, 8, 9, 10, 11, 12, 13, 14, 15, 16, 17, 18, 19, 20, 21, 22, 23, 24, 25, 26, 27, 28, 29, 30, 31, 32, 33, 34, 35, 36, 37, 38, 39, 40, 41, 42, 43, 44, 45, 46, 47, 48, 49, 50, 51, 52, 53, 54, 55, 56, 57, 58, 59, 60, 61, 62, 63, 64, 65, 66, 67, 68, 69, 70, 71, 72, 73, 74, 75, 76, 77, 78, 79, 80, 81, 82, 83, 84] 0 (c_X11_fails E h g g_q4) (cut_wX_wX_c ..) rfl rfl (ws' := (wX E h g q4.1)) (cut_wX_wX_w ..) (wX_0 ..) rfl k_351 k_353 k_0 k_68 k_354 (⟨rfl, rfl⟩) hdV_X11_fails ⟨Nat.le_of_ble_eq_true rfl, Nat.le_of_ble_eq_true rfl⟩ rfl (Nat.le_of_ble_eq_true rfl) rfl dX11_then_29 ?_
      obtain rfl := Option.some.inj hf
      exact j_iret X hr hlk rfl dX11_then_32 hQ
    · replace hf := (if_neg c_15).symm.trans hf
      refine j_iload_n X dX11_then_18 rfl rfl ?_
      refine j_iconst (v := (2 : Int32)) X dX11_then_19 (by decide) ?_
      refine j_iconst (v := (4 : Int32)) X dX11_then_20 (by decide) ?_
      obtain ⟨q5, g_q5, hf⟩ := ob_t hf
      refine j_callS X [] (c_X11_within E g_q5) rfl rfl rfl (ws' := (wX E h g μ)) rfl k_348 k_349 k_68 k_350 (⟨rfl, rfl⟩) hdS_X11_within ⟨Nat.le_of_ble_eq_true rfl, Nat.le_of_ble_eq_true rfl⟩ rfl (Nat.le_of_ble_eq_true rfl) rfl dX11_then_21 ?_
      refine j_if_ne (tgt := 33) X dX11_then_24 (by decide) (fun c_24 => ?_) (fun c_24 => ?_)
      · replace hf := (if_neg c_24).symm.trans hf
        refine j_aload_n X dX11_then_33 rfl rfl ?_
        refine j_iload_n X dX11_then_34 rfl rfl ?_
        obtain ⟨q6, g_q6, hf⟩ := ob_t hf
        refine j_callV X [0, 1, 2, 3, 4, 5, 6, 7, 8, 9, 10, 11, 12, 13, 14, 15, 16, 17, 18, 19, 20, 21, 22, 23, 24, 25, 26, 27, 28, 29, 30, 31, 32, 33, 34, 35, 36, 37, 38, 39, 40, 41, 42, 43, 44, 45, 46, 47, 48, 49, 50, 51, 52, 53, 54, 55, 56, 57, 58, 59, 60, 61, 62, 63, 64, 65, 66, 67, 68, 69, 70, 71, 72, 73, 74, 75, 76, 77, 78, 79, 80, 81, 82, 83, 84] 0 (c_X11_lookAhead E h g g_q6) (cut_wX_wX_c ..) rfl rfl (ws' := (wX E h g q6)) (cut_wX_wX_w ..) (wX_0 ..) rfl k_634 k_636 k_17 k_68 k_637 (⟨rfl, rfl⟩) hdV_X11_lookAhead ⟨Nat.le_of_ble_eq_true rfl, Nat.le_of_ble_eq_true rfl⟩ rfl (Nat.le_of_ble_eq_true rfl) rfl dX11_then_35 ?_
        refine j_aload_n X dX11_then_38 rfl rfl ?_
        refine j_get (C := RX11) (T := TX11) (N := 10) X iX11 0 (wX_0 ..) rfl 2 (by decide) k_312 rfl rfl dX11_then_39 ?_
        refine j_iload_n X dX11_then_42 rfl rfl ?_
        refine j_iload_n X dX11_then_43 rfl rfl ?_
        obtain ⟨q7, g_q7, hf⟩ := ob_t hf
        obtain ⟨μ8, e_μ8, hf⟩ := bd_e hf
        refine j_callV X [35, 36, 37, 38, 39, 40, 7, 8, 9, 10, 11, 12, 13, 14, 66, 67, 68, 69, 70, 71, 72, 73] 0 (c_X4_is E (fun j => h (List.getD [35, 36, 37, 38, 39, 40, 7, 8, 9, 10, 11, 12, 13, 14, 66, 67, 68, 69, 70, 71, 72, 73] j 0)) (fun j => g (List.getD [0, 1] j 0)) g_q7) (cut_wX_wR_35_36_37_c ..) rfl rfl (ws' := (wX E h g μ8)) (by rw [e_μ8]; exact cut_wX_wR_35_36_37_w ..) (wR_0 ..) rfl k_438 k_439 k_440 k_78 k_441 (⟨rfl, rfl⟩) hdV_X4_is ⟨Nat.le_of_ble_eq_true rfl, Nat.le_of_ble_eq_true rfl⟩ rfl (Nat.le_of_ble_eq_true rfl) rfl dX11_then_44 ?_
        obtain rfl := Option.some.inj hf
        exact j_iret X hr hlk rfl dX11_then_47 hQ
      · replace hf := (if_pos c_24).symm.trans hf
        refine j_aload_n X dX11_then_27 rfl rfl ?_
        refine j_iconst (v := (1 : Int32)) X dX11_then_28 (by decide) ?_
        obtain ⟨q9, g_q9, hf⟩ := ob_t hf
        refine j_callV X [0, 1, 2, 3, 4, 5, 6, 7, 8, 9, 10, 11, 12, 13, 14, 15, 16, 17, 18, 19, 20, 21, 22, 23, 24, 25, 26, 27, 28, 29, 30, 31, 32, 33, 34, 35, 36, 37, 38, 39, 40, 41, 42, 43, 44, 45, 46, 47, 48, 49, 50, 51, 52, 53, 54, 55, 56, 57, 58, 59, 60, 61, 62, 63, 64, 65, 66, 67, 68, 69, 70, 71, 72, 73, 74, 75, 76, 77, 78, 79, 80, 81, 82, 83, 84] 0 (c_X11_fails E h g g_q9) (cut_wX_wX_c ..) rfl rfl (ws' := (wX E h g q9.1)) (cut_wX_wX_w ..) (wX_0 ..) rfl k_351 k_353 k_0 k_68 k_354 (⟨rfl, rfl⟩) hdV_X11_fails ⟨Nat.le_of_ble_eq_true rfl, Nat.le_of_ble_eq_true rfl⟩ rfl (Nat.le_of_ble_eq_true rfl) rfl dX11_then_29 ?_
        obtain rfl := Option.some.inj hf
        exact j_iret X hr hlk rfl dX11_then_32 hQ
def f_X11_standing (μ : Mem) (x1 : Int32) : Option (Mem × Int32) := (f_X11_within x1 (0 : Int32) (200 : Int32)).bind fun q1 => ((if q1 = 0 then (f_X11_fails μ (1 : Int32)).bind fun q5 => (some (q5.1, q5.2)) else (f_X11_lookAhead μ x1).bind fun q2 => ((f_X4_howMany (sub [35, 36, 37, 38, 39, 40, 7, 8, 9, 10, 11, 12, 13, 14, 66, 67, 68, 69, 70, 71, 72, 73] q2)).bind fun q3 => (bd (put [35, 36, 37, 38, 39, 40, 7, 8, 9, 10, 11, 12, 13, 14, 66, 67, 68, 69, 70, 71, 72, 73] q2 q3.1) fun μ4 => (some (μ4, q3.2))))))
set_option maxHeartbeats 4000000 in
set_option maxRecDepth 20000 in
theorem c_X11_standing (E : Ev) (h : Nat → Nat) (g : Nat → Option Nat) {μ : Mem} {x1 : Int32} {r : (Mem × Int32)} (hf : f_X11_standing μ x1 = some r) : Ct E yX11_standing cX11_standing 2 (some .int) (rmOf 7 158) (wX E h g μ) (wX E h g r.1) [.ref (h 0), .int x1] (some (.int r.2)) := by
  refine ct_start RX11 0 (by decide) rfl (Nat.le_of_ble_eq_true rfl) ?_
  intro p l e s m args below meth c A Q X hr hlk hQ
  rw [f_X11_standing] at hf
  refine j_iload_n X dX11_standing_0 rfl rfl ?_
  refine j_iconst (v := (0 : Int32)) X dX11_standing_1 (by decide) ?_
  refine j_sipush (v := (200 : Int32)) X dX11_standing_2 (by decide) ?_
  obtain ⟨q1, g_q1, hf⟩ := ob_t hf
  refine j_callS X [] (c_X11_within E g_q1) rfl rfl rfl (ws' := (wX E h g μ)) rfl k_348 k_349 k_68 k_350 (⟨rfl, rfl⟩) hdS_X11_within ⟨Nat.le_of_ble_eq_true rfl, Nat.le_of_ble_eq_true rfl⟩ rfl (Nat.le_of_ble_eq_true rfl) rfl dX11_standing_5 ?_
  refine j_if_ne (tgt := 17) X dX11_standing_8 (by decide) (fun c_8 => ?_) (fun c_8 => ?_)
  · replace hf := (if_neg c_8).symm.trans hf
    refine j_aload_n X dX11_standing_17 rfl rfl ?_
    refine j_iload_n X dX11_standing_18 rfl rfl ?_
    obtain ⟨q2, g_q2, hf⟩ := ob_t hf
    refine j_callV X [0, 1, 2, 3, 4, 5, 6, 7, 8, 9, 10, 11, 12, 13, 14, 15, 16, 17, 18, 19, 20, 21, 22, 23, 24, 25, 26, 27, 28, 29, 30, 31, 32, 33, 34, 35, 36, 37, 38, 39, 40, 41, 42, 43, 44, 45, 46, 47, 48, 49, 50, 51, 52, 53, 54, 55, 56, 57, 58, 59, 60, 61, 62, 63, 64, 65, 66, 67, 68, 69, 70, 71, 72, 73, 74, 75, 76, 77, 78, 79, 80, 81, 82, 83, 84] 0 (c_X11_lookAhead E h g g_q2) (cut_wX_wX_c ..) rfl rfl (ws' := (wX E h g q2)) (cut_wX_wX_w ..) (wX_0 ..) rfl k_634 k_636 k_17 k_68 k_637 (⟨rfl, rfl⟩) hdV_X11_lookAhead ⟨Nat.le_of_ble_eq_true rfl, Nat.le_of_ble_eq_true rfl⟩ rfl (Nat.le_of_ble_eq_true rfl) rfl dX11_standing_19 ?_
    refine j_aload_n X dX11_standing_22 rfl rfl ?_
    refine j_get (C := RX11) (T := TX11) (N := 10) X iX11 0 (wX_0 ..) rfl 2 (by decide) k_312 rfl rfl dX11_standing_23 ?_
    obtain ⟨q3, g_q3, hf⟩ := ob_t hf
    obtain ⟨μ4, e_μ4, hf⟩ := bd_e hf
    refine j_callV X [35, 36, 37, 38, 39, 40, 7, 8, 9, 10, 11, 12, 13, 14, 66, 67, 68, 69, 70, 71, 72, 73] 0 (c_X4_howMany E (fun j => h (List.getD [35, 36, 37, 38, 39, 40, 7, 8, 9, 10, 11, 12, 13, 14, 66, 67, 68, 69, 70, 71, 72, 73] j 0)) (fun j => g (List.getD [0, 1] j 0)) g_q3) (cut_wX_wR_35_36_37_c ..) rfl rfl (ws' := (wX E h g μ4)) (by rw [e_μ4]; exact cut_wX_wR_35_36_37_w ..) (wR_0 ..) rfl k_649 k_650 k_651 k_78 k_652 (⟨rfl, rfl⟩) hdV_X4_howMany ⟨Nat.le_of_ble_eq_true rfl, Nat.le_of_ble_eq_true rfl⟩ rfl (Nat.le_of_ble_eq_true rfl) rfl dX11_standing_26 ?_
    obtain rfl := Option.some.inj hf
    exact j_iret X hr hlk rfl dX11_standing_29 hQ
  · replace hf := (if_pos c_8).symm.trans hf
    refine j_aload_n X dX11_standing_11 rfl rfl ?_
    refine j_iconst (v := (1 : Int32)) X dX11_standing_12 (by decide) ?_
    obtain ⟨q5, g_q5, hf⟩ := ob_t hf
    refine j_callV X [0, 1, 2, 3, 4, 5, 6, 7, 8, 9, 10, 11, 12, 13, 14, 15, 16, 17, 18, 19, 20, 21, 22, 23, 24, 25, 26, 27, 28, 29, 30, 31, 32, 33, 34, 35, 36, 37, 38, 39, 40, 41, 42, 43, 44, 45, 46, 47, 48, 49, 50, 51, 52, 53, 54, 55, 56, 57, 58, 59, 60, 61, 62, 63, 64, 65, 66, 67, 68, 69, 70, 71, 72, 73, 74, 75, 76, 77, 78, 79, 80, 81, 82, 83, 84] 0 (c_X11_fails E h g g_q5) (cut_wX_wX_c ..) rfl rfl (ws' := (wX E h g q5.1)) (cut_wX_wX_w ..) (wX_0 ..) rfl k_351 k_353 k_0 k_68 k_354 (⟨rfl, rfl⟩) hdV_X11_fails ⟨Nat.le_of_ble_eq_true rfl, Nat.le_of_ble_eq_true rfl⟩ rfl (Nat.le_of_ble_eq_true rfl) rfl dX11_standing_13 ?_
    obtain rfl := Option.some.inj hf
    exact j_iret X hr hlk rfl dX11_standing_16 hQ
def f_X11_lasts (μ : Mem) (x1 : Int32) : Option (Mem × Int32) := (f_X11_isStander x1).bind fun q1 => ((if q1 = 0 then (f_X11_fails μ (1 : Int32)).bind fun q10 => (some (q10.1, q10.2)) else (f_X4_stands (sub [23, 24, 25, 26, 27, 28, 7, 8, 9, 10, 11, 12, 13, 14, 66, 67, 68, 69, 70, 71, 72, 73] μ) x1).bind fun q2 => (bd (put [23, 24, 25, 26, 27, 28, 7, 8, 9, 10, 11, 12, 13, 14, 66, 67, 68, 69, 70, 71, 72, 73] μ q2.1) fun μ3 => ((if q2.2 = 0 then (f_X11_fails μ3 (3 : Int32)).bind fun q9 => (some (q9.1, q9.2)) else (f_X4_copyFrom (sub [35, 36, 37, 38, 39, 40, 23, 24, 25, 26, 27, 28] μ3)).bind fun q4 => (bd (put [35, 36, 37, 38, 39, 40, 23, 24, 25, 26, 27, 28] μ3 q4) fun μ5 => ((f_X4_lastsFor (sub [35, 36, 37, 38, 39, 40, 7, 8, 9, 10, 11, 12, 13, 14, 66, 67, 68, 69, 70, 71, 72, 73] μ5) x1).bind fun q6 => (bd (put [35, 36, 37, 38, 39, 40, 7, 8, 9, 10, 11, 12, 13, 14, 66, 67, 68, 69, 70, 71, 72, 73] μ5 q6.1) fun μ7 => ((if q6.2 = (201 : Int32) then (f_X11_fails μ7 (2 : Int32)).bind fun q8 => (some (q8.1, q8.2)) else some (μ7, q6.2)))))))))))
set_option maxHeartbeats 4000000 in
set_option maxRecDepth 20000 in
theorem c_X11_lasts (E : Ev) (h : Nat → Nat) (g : Nat → Option Nat) {μ : Mem} {x1 : Int32} {r : (Mem × Int32)} (hf : f_X11_lasts μ x1 = some r) : Ct E yX11_lasts cX11_lasts 3 (some .int) (rmOf 6 136) (wX E h g μ) (wX E h g r.1) [.ref (h 0), .int x1] (some (.int r.2)) := by
  refine ct_start RX11 1 (by decide) rfl (Nat.le_of_ble_eq_true rfl) ?_
  intro p l e s m args below meth c A Q X hr hlk hQ
  rw [f_X11_lasts] at hf
  refine j_iload_n X dX11_lasts_0 rfl rfl ?_
  obtain ⟨q1, g_q1, hf⟩ := ob_t hf
  refine j_callS X [] (c_X11_isStander E g_q1) rfl rfl rfl (ws' := (wX E h g μ)) rfl k_345 k_346 k_68 k_347 (⟨rfl, rfl⟩) hdS_X11_isStander ⟨Nat.le_of_ble_eq_true rfl, Nat.le_of_ble_eq_true rfl⟩ rfl (Nat.le_of_ble_eq_true rfl) rfl dX11_lasts_1 ?_
  refine j_if_ne (tgt := 13) X dX11_lasts_4 (by decide) (fun c_4 => ?_) (fun c_4 => ?_)
  · replace hf := (if_neg c_4).symm.trans hf
    refine j_aload_n X dX11_lasts_13 rfl rfl ?_
    refine j_get (C := RX11) (T := TX11) (N := 10) X iX11 0 (wX_0 ..) rfl 0 (by decide) k_310 rfl rfl dX11_lasts_14 ?_
    refine j_get (C := RX5) (T := TX5) (N := 8) X iX5 1 (wX_1 ..) rfl 2 (by decide) k_239 rfl rfl dX11_lasts_17 ?_
    refine j_iload_n X dX11_lasts_20 rfl rfl ?_
    obtain ⟨q2, g_q2, hf⟩ := ob_t hf
    obtain ⟨μ3, e_μ3, hf⟩ := bd_e hf
    refine j_callV X [23, 24, 25, 26, 27, 28, 7, 8, 9, 10, 11, 12, 13, 14, 66, 67, 68, 69, 70, 71, 72, 73] 0 (c_X4_stands E (fun j => h (List.getD [23, 24, 25, 26, 27, 28, 7, 8, 9, 10, 11, 12, 13, 14, 66, 67, 68, 69, 70, 71, 72, 73] j 0)) (fun j => g (List.getD [0, 1] j 0)) g_q2) (cut_wX_wR_23_24_25_c ..) rfl rfl (ws' := (wX E h g μ3)) (by rw [e_μ3]; exact cut_wX_wR_23_24_25_w ..) (wR_0 ..) rfl k_454 k_455 k_456 k_78 k_457 (⟨rfl, rfl⟩) hdV_X4_stands ⟨Nat.le_of_ble_eq_true rfl, Nat.le_of_ble_eq_true rfl⟩ rfl (Nat.le_of_ble_eq_true rfl) rfl dX11_lasts_21 ?_
    refine j_if_ne (tgt := 33) X dX11_lasts_24 (by decide) (fun c_24 => ?_) (fun c_24 => ?_)
    · replace hf := (if_neg c_24).symm.trans hf
      refine j_aload_n X dX11_lasts_33 rfl rfl ?_
      refine j_get (C := RX11) (T := TX11) (N := 10) X iX11 0 (wX_0 ..) rfl 2 (by decide) k_312 rfl rfl dX11_lasts_34 ?_
      refine j_aload_n X dX11_lasts_37 rfl rfl ?_
      refine j_get (C := RX11) (T := TX11) (N := 10) X iX11 0 (wX_0 ..) rfl 0 (by decide) k_310 rfl rfl dX11_lasts_38 ?_
      refine j_get (C := RX5) (T := TX5) (N := 8) X iX5 1 (wX_1 ..) rfl 2 (by decide) k_239 rfl rfl dX11_lasts_41 ?_
      obtain ⟨q4, g_q4, hf⟩ := ob_t hf
      obtain ⟨μ5, e_μ5, hf⟩ := bd_e hf
      refine j_callV X [35, 36, 37, 38, 39, 40, 23, 24, 25, 26, 27, 28] 0 (c_X4_copyFrom E (fun j => h (List.getD [35, 36, 37, 38, 39, 40, 23, 24, 25, 26, 27, 28, 7, 11, 66, 7, 11, 66] j 0)) (fun j => g (List.getD [] j 0)) g_q4) (cut_wX_wRC_35_36_37_c ..) rfl rfl (ws' := (wX E h g μ5)) (by rw [e_μ5]; exact cut_wX_wRC_35_36_37_w ..) (wRC_0 ..) rfl k_638 k_639 k_640 k_78 k_641 (⟨rfl, rfl⟩) hdV_X4_copyFrom ⟨Nat.le_of_ble_eq_true rfl, Nat.le_of_ble_eq_true rfl⟩ rfl (Nat.le_of_ble_eq_true rfl) rfl dX11_lasts_44 ?_
      refine j_aload_n X dX11_lasts_47 rfl rfl ?_
      refine j_get (C := RX11) (T := TX11) (N := 10) X iX11 0 (wX_0 ..) rfl 2 (by decide) k_312 rfl rfl dX11_lasts_48 ?_
      refine j_iload_n X dX11_lasts_51 rfl rfl ?_
      obtain ⟨q6, g_q6, hf⟩ := ob_t hf
      obtain ⟨μ7, e_μ7, hf⟩ := bd_e hf
      refine j_callV X [35, 36, 37, 38, 39, 40, 7, 8, 9, 10, 11, 12, 13, 14, 66, 67, 68, 69, 70, 71, 72, 73] 0 (c_X4_lastsFor E (fun j => h (List.getD [35, 36, 37, 38, 39, 40, 7, 8, 9, 10, 11, 12, 13, 14, 66, 67, 68, 69, 70, 71, 72, 73] j 0)) (fun j => g (List.getD [0, 1] j 0)) g_q6) (cut_wX_wR_35_36_37_c ..) rfl rfl (ws' := (wX E h g μ7)) (by rw [e_μ7]; exact cut_wX_wR_35_36_37_w ..) (wR_0 ..) rfl k_667 k_668 k_669 k_78 k_670 (⟨rfl, rfl⟩) hdV_X4_lastsFor ⟨Nat.le_of_ble_eq_true rfl, Nat.le_of_ble_eq_true rfl⟩ rfl (Nat.le_of_ble_eq_true rfl) rfl dX11_lasts_52 ?_
      refine j_istore_n2 X dX11_lasts_55 rfl (by decide) rfl ?_
      refine j_iload_n X dX11_lasts_56 rfl rfl ?_
      refine j_sipush (v := (201 : Int32)) X dX11_lasts_57 (by decide) ?_
      refine j_icmp_ne (tgt := 71) X dX11_lasts_60 (by decide) (fun c_60 => ?_) (fun c_60 => ?_)
      · replace hf := (if_neg c_60).symm.trans hf
        refine j_iload_n X dX11_lasts_71 rfl rfl ?_
        obtain rfl := Option.some.inj hf
        exact j_iret X hr hlk rfl dX11_lasts_72 hQ
      · replace hf := (if_pos c_60).symm.trans hf
        refine j_aload_n X dX11_lasts_63 rfl rfl ?_
        refine j_iconst (v := (2 : Int32)) X dX11_lasts_64 (by decide) ?_
        obtain ⟨q8, g_q8, hf⟩ := ob_t hf
        refine j_callV X [0, 1, 2, 3, 4, 5, 6, 7, 8, 9, 10, 11, 12, 13, 14, 15, 16, 17, 18, 19, 20, 21, 22, 23, 24, 25, 26, 27, 28, 29, 30, 31, 32, 33, 34, 35, 36, 37, 38, 39, 40, 41, 42, 43, 44, 45, 46, 47, 48, 49, 50, 51, 52, 53, 54, 55, 56, 57, 58, 59, 60, 61, 62, 63, 64, 65, 66, 67, 68, 69, 70, 71, 72, 73, 74, 75, 76, 77, 78, 79, 80, 81, 82, 83, 84] 0 (c_X11_fails E h g g_q8) (cut_wX_wX_c ..) rfl rfl (ws' := (wX E h g q8.1)) (cut_wX_wX_w ..) (wX_0 ..) rfl k_351 k_353 k_0 k_68 k_354 (⟨rfl, rfl⟩) hdV_X11_fails ⟨Nat.le_of_ble_eq_true rfl, Nat.le_of_ble_eq_true rfl⟩ rfl (Nat.le_of_ble_eq_true rfl) rfl dX11_lasts_65 ?_
        refine j_goto (tgt := 72) X dX11_lasts_68 (by decide) ?_
        obtain rfl := Option.some.inj hf
        exact j_iret X hr hlk rfl dX11_lasts_72 hQ
    · replace hf := (if_pos c_24).symm.trans hf
      refine j_aload_n X dX11_lasts_27 rfl rfl ?_
      refine j_iconst (v := (3 : Int32)) X dX11_lasts_28 (by decide) ?_
      obtain ⟨q9, g_q9, hf⟩ := ob_t hf
      refine j_callV X [0, 1, 2, 3, 4, 5, 6, 7, 8, 9, 10, 11, 12, 13, 14, 15, 16, 17, 18, 19, 20, 21, 22, 23, 24, 25, 26, 27, 28, 29, 30, 31, 32, 33, 34, 35, 36, 37, 38, 39, 40, 41, 42, 43, 44, 45, 46, 47, 48, 49, 50, 51, 52, 53, 54, 55, 56, 57, 58, 59, 60, 61, 62, 63, 64, 65, 66, 67, 68, 69, 70, 71, 72, 73, 74, 75, 76, 77, 78, 79, 80, 81, 82, 83, 84] 0 (c_X11_fails E h g g_q9) (cut_wX_wX_c ..) rfl rfl (ws' := (wX E h g q9.1)) (cut_wX_wX_w ..) (wX_0 ..) rfl k_351 k_353 k_0 k_68 k_354 (⟨rfl, rfl⟩) hdV_X11_fails ⟨Nat.le_of_ble_eq_true rfl, Nat.le_of_ble_eq_true rfl⟩ rfl (Nat.le_of_ble_eq_true rfl) rfl dX11_lasts_29 ?_
      obtain rfl := Option.some.inj hf
      exact j_iret X hr hlk rfl dX11_lasts_32 hQ
  · replace hf := (if_pos c_4).symm.trans hf
    refine j_aload_n X dX11_lasts_7 rfl rfl ?_
    refine j_iconst (v := (1 : Int32)) X dX11_lasts_8 (by decide) ?_
    obtain ⟨q10, g_q10, hf⟩ := ob_t hf
    refine j_callV X [0, 1, 2, 3, 4, 5, 6, 7, 8, 9, 10, 11, 12, 13, 14, 15, 16, 17, 18, 19, 20, 21, 22, 23, 24, 25, 26, 27, 28, 29, 30, 31, 32, 33, 34, 35, 36, 37, 38, 39, 40, 41, 42, 43, 44, 45, 46, 47, 48, 49, 50, 51, 52, 53, 54, 55, 56, 57, 58, 59, 60, 61, 62, 63, 64, 65, 66, 67, 68, 69, 70, 71, 72, 73, 74, 75, 76, 77, 78, 79, 80, 81, 82, 83, 84] 0 (c_X11_fails E h g g_q10) (cut_wX_wX_c ..) rfl rfl (ws' := (wX E h g q10.1)) (cut_wX_wX_w ..) (wX_0 ..) rfl k_351 k_353 k_0 k_68 k_354 (⟨rfl, rfl⟩) hdV_X11_fails ⟨Nat.le_of_ble_eq_true rfl, Nat.le_of_ble_eq_true rfl⟩ rfl (Nat.le_of_ble_eq_true rfl) rfl dX11_lasts_9 ?_
    obtain rfl := Option.some.inj hf
    exact j_iret X hr hlk rfl dX11_lasts_12 hQ
def f_X11_lastOne_L73 (K13 : Mem → Int32 → Int32 → Int32 → Option (Mem × Int32)) (μ : Mem) (x1 : Int32) (x2 : Int32) (x3 : Int32) (t0 : Int32) : Option (Mem × Int32) := (if t0 ≤ x2 then K13 μ x1 x2 (x3 + (1 : Int32)) else K13 μ x3 t0 (x3 + (1 : Int32)))
def f_X11_lastOne_L13 : Nat → Mem → Int32 → Int32 → Int32 → Option (Mem × Int32)
  | 0, _, _, _, _ => none
  | n + 1, μ, x1, x2, x3 => (if (9 : Int32) ≤ x3 then (if 0 ≤ x1 then some (μ, x1) else (f_X11_fails μ (2 : Int32)).bind fun q2 => (some (q2.1, q2.2))) else (f_X4_stands (sub [23, 24, 25, 26, 27, 28, 7, 8, 9, 10, 11, 12, 13, 14, 66, 67, 68, 69, 70, 71, 72, 73] μ) x3).bind fun q3 => (bd (put [23, 24, 25, 26, 27, 28, 7, 8, 9, 10, 11, 12, 13, 14, 66, 67, 68, 69, 70, 71, 72, 73] μ q3.1) fun μ4 => ((if q3.2 = 0 then (f_X11_lastOne_L13 n) μ4 x1 x2 (x3 + (1 : Int32)) else (f_X4_stands (sub [35, 36, 37, 38, 39, 40, 7, 8, 9, 10, 11, 12, 13, 14, 66, 67, 68, 69, 70, 71, 72, 73] μ4) x3).bind fun q5 => (bd (put [35, 36, 37, 38, 39, 40, 7, 8, 9, 10, 11, 12, 13, 14, 66, 67, 68, 69, 70, 71, 72, 73] μ4 q5.1) fun μ6 => ((if q5.2 = 0 then (if inb x3 9 = true then f_X11_lastOne_L73 (f_X11_lastOne_L13 n) μ6 x1 x2 x3 ((μ6 40 x3.toNatClampNeg) - (μ6 23 6)) else none) else f_X11_lastOne_L73 (f_X11_lastOne_L13 n) μ6 x1 x2 x3 (201 : Int32))))))))
def f_X11_lastOne (μ : Mem) : Option (Mem × Int32) := (f_X11_lookAhead μ (200 : Int32)).bind fun q1 => (f_X11_lastOne_L13 fuel0 q1 (-1 : Int32) (0 : Int32) (0 : Int32))
set_option maxHeartbeats 4000000 in
set_option maxRecDepth 20000 in
theorem c_X11_lastOne (E : Ev) (h : Nat → Nat) (g : Nat → Option Nat) {μ : Mem} {r : (Mem × Int32)} (hf : f_X11_lastOne μ = some r) : Ct E yX11_lastOne cX11_lastOne 5 (some .int) (rmOf 7 158) (wX E h g μ) (wX E h g r.1) [.ref (h 0)] (some (.int r.2)) := by
  refine ct_start RX11 4 (by decide) rfl (Nat.le_of_ble_eq_true rfl) ?_
  intro p l e s m args below meth c A Q X hr hlk hQ
  have lab73 : ∀ (K13 : Mem → Int32 → Int32 → Int32 → Option (Mem × Int32)) (hK13 : ∀ (μ : Mem) (x1 : Int32) (x2 : Int32) (x3 : Int32), K13 μ x1 x2 x3 = some r → J p l e (rmOf 7 158) s m args below meth c E A 5 Q (wX E h g μ) [some (.ref (h 0)), some (.int x1), some (.int x2), some (.int x3), none] 13 []) (μ : Mem) (x1 : Int32) (x2 : Int32) (x3 : Int32) (t0 : Int32), f_X11_lastOne_L73 K13 μ x1 x2 x3 t0 = some r → J p l e (rmOf 7 158) s m args below meth c E A 5 Q (wX E h g μ) [some (.ref (h 0)), some (.int x1), some (.int x2), some (.int x3), none] 73 [.int t0] := by
    intro K13 hK13 μ x1 x2 x3 t0 hf
    rw [f_X11_lastOne_L73] at hf
    refine j_istore4 X dX11_lastOne_73 (by decide) rfl ?_
    refine j_iload X dX11_lastOne_75 rfl ?_
    refine j_iload_n X dX11_lastOne_77 rfl rfl ?_
    refine j_icmp_le (tgt := 86) X dX11_lastOne_78 (by decide) (fun c_78 => ?_) (fun c_78 => ?_)
    · replace hf := (if_pos c_78).symm.trans hf
      refine j_iinc3 (k := (1 : Int32)) X dX11_lastOne_86 (by decide) (by decide) rfl ?_
      refine j_goto (tgt := 13) X dX11_lastOne_89 (by decide) ?_
      refine j_keep [true, true, true, true, false] rfl ?_
      exact hK13 _ _ _ _ hf
    · replace hf := (if_neg c_78).symm.trans hf
      refine j_iload X dX11_lastOne_81 rfl ?_
      refine j_istore_n2 X dX11_lastOne_83 rfl (by decide) rfl ?_
      refine j_iload_n X dX11_lastOne_84 rfl rfl ?_
      refine j_istore_n1 X dX11_lastOne_85 rfl (by decide) rfl ?_
      refine j_iinc3 (k := (1 : Int32)) X dX11_lastOne_86 (by decide) (by decide) rfl ?_
      refine j_goto (tgt := 13) X dX11_lastOne_89 (by decide) ?_
      refine j_keep [true, true, true, true, false] rfl ?_
      exact hK13 _ _ _ _ hf
  have lab13 : ∀ (n : Nat) (μ : Mem) (x1 : Int32) (x2 : Int32) (x3 : Int32), f_X11_lastOne_L13 n μ x1 x2 x3 = some r → J p l e (rmOf 7 158) s m args below meth c E A 5 Q (wX E h g μ) [some (.ref (h 0)), some (.int x1), some (.int x2), some (.int x3), none] 13 [] := by
    intro n
    induction n with
    | zero => intro μ x1 x2 x3 hf; cases (show none = some r from hf)
    | succ n ih =>
      intro μ x1 x2 x3 hf
      rw [f_X11_lastOne_L13] at hf
      refine j_iload_n X dX11_lastOne_13 rfl rfl ?_
      refine j_bipush (v := (9 : Int32)) X dX11_lastOne_14 (by decide) ?_
      refine j_icmp_ge (tgt := 92) X dX11_lastOne_16 (by decide) (fun c_16 => ?_) (fun c_16 => ?_)
      · replace hf := (if_pos c_16).symm.trans hf
        refine j_iload_n X dX11_lastOne_92 rfl rfl ?_
        refine j_if_ge (tgt := 104) X dX11_lastOne_93 (by decide) (fun c_93 => ?_) (fun c_93 => ?_)
        · replace hf := (if_pos c_93).symm.trans hf
          refine j_iload_n X dX11_lastOne_104 rfl rfl ?_
          obtain rfl := Option.some.inj hf
          exact j_iret X hr hlk rfl dX11_lastOne_105 hQ
        · replace hf := (if_neg c_93).symm.trans hf
          refine j_aload_n X dX11_lastOne_96 rfl rfl ?_
          refine j_iconst (v := (2 : Int32)) X dX11_lastOne_97 (by decide) ?_
          obtain ⟨q2, g_q2, hf⟩ := ob_t hf
          refine j_callV X [0, 1, 2, 3, 4, 5, 6, 7, 8, 9, 10, 11, 12, 13, 14, 15, 16, 17, 18, 19, 20, 21, 22, 23, 24, 25, 26, 27, 28, 29, 30, 31, 32, 33, 34, 35, 36, 37, 38, 39, 40, 41, 42, 43, 44, 45, 46, 47, 48, 49, 50, 51, 52, 53, 54, 55, 56, 57, 58, 59, 60, 61, 62, 63, 64, 65, 66, 67, 68, 69, 70, 71, 72, 73, 74, 75, 76, 77, 78, 79, 80, 81, 82, 83, 84] 0 (c_X11_fails E h g g_q2) (cut_wX_wX_c ..) rfl rfl (ws' := (wX E h g q2.1)) (cut_wX_wX_w ..) (wX_0 ..) rfl k_351 k_353 k_0 k_68 k_354 (⟨rfl, rfl⟩) hdV_X11_fails ⟨Nat.le_of_ble_eq_true rfl, Nat.le_of_ble_eq_true rfl⟩ rfl (Nat.le_of_ble_eq_true rfl) rfl dX11_lastOne_98 ?_
          refine j_goto (tgt := 105) X dX11_lastOne_101 (by decide) ?_
          obtain rfl := Option.some.inj hf
          exact j_iret X hr hlk rfl dX11_lastOne_105 hQ
      · replace hf := (if_neg c_16).symm.trans hf
        refine j_aload_n X dX11_lastOne_19 rfl rfl ?_
        refine j_get (C := RX11) (T := TX11) (N := 10) X iX11 0 (wX_0 ..) rfl 0 (by decide) k_310 rfl rfl dX11_lastOne_20 ?_
        refine j_get (C := RX5) (T := TX5) (N := 8) X iX5 1 (wX_1 ..) rfl 2 (by decide) k_239 rfl rfl dX11_lastOne_23 ?_
        refine j_iload_n X dX11_lastOne_26 rfl rfl ?_
        obtain ⟨q3, g_q3, hf⟩ := ob_t hf
        obtain ⟨μ4, e_μ4, hf⟩ := bd_e hf
        refine j_callV X [23, 24, 25, 26, 27, 28, 7, 8, 9, 10, 11, 12, 13, 14, 66, 67, 68, 69, 70, 71, 72, 73] 0 (c_X4_stands E (fun j => h (List.getD [23, 24, 25, 26, 27, 28, 7, 8, 9, 10, 11, 12, 13, 14, 66, 67, 68, 69, 70, 71, 72, 73] j 0)) (fun j => g (List.getD [0, 1] j 0)) g_q3) (cut_wX_wR_23_24_25_c ..) rfl rfl (ws' := (wX E h g μ4)) (by rw [e_μ4]; exact cut_wX_wR_23_24_25_w ..) (wR_0 ..) rfl k_454 k_455 k_456 k_78 k_457 (⟨rfl, rfl⟩) hdV_X4_stands ⟨Nat.le_of_ble_eq_true rfl, Nat.le_of_ble_eq_true rfl⟩ rfl (Nat.le_of_ble_eq_true rfl) rfl dX11_lastOne_27 ?_
        refine j_if_ne (tgt := 36) X dX11_lastOne_30 (by decide) (fun c_30 => ?_) (fun c_30 => ?_)
        · replace hf := (if_neg c_30).symm.trans hf
          refine j_aload_n X dX11_lastOne_36 rfl rfl ?_
          refine j_get (C := RX11) (T := TX11) (N := 10) X iX11 0 (wX_0 ..) rfl 2 (by decide) k_312 rfl rfl dX11_lastOne_37 ?_
          refine j_iload_n X dX11_lastOne_40 rfl rfl ?_
          obtain ⟨q5, g_q5, hf⟩ := ob_t hf
          obtain ⟨μ6, e_μ6, hf⟩ := bd_e hf
          refine j_callV X [35, 36, 37, 38, 39, 40, 7, 8, 9, 10, 11, 12, 13, 14, 66, 67, 68, 69, 70, 71, 72, 73] 0 (c_X4_stands E (fun j => h (List.getD [35, 36, 37, 38, 39, 40, 7, 8, 9, 10, 11, 12, 13, 14, 66, 67, 68, 69, 70, 71, 72, 73] j 0)) (fun j => g (List.getD [0, 1] j 0)) g_q5) (cut_wX_wR_35_36_37_c ..) rfl rfl (ws' := (wX E h g μ6)) (by rw [e_μ6]; exact cut_wX_wR_35_36_37_w ..) (wR_0 ..) rfl k_454 k_455 k_456 k_78 k_457 (⟨rfl, rfl⟩) hdV_X4_stands ⟨Nat.le_of_ble_eq_true rfl, Nat.le_of_ble_eq_true rfl⟩ rfl (Nat.le_of_ble_eq_true rfl) rfl dX11_lastOne_41 ?_
          refine j_if_eq (tgt := 53) X dX11_lastOne_44 (by decide) (fun c_44 => ?_) (fun c_44 => ?_)
          · replace hf := (if_pos c_44).symm.trans hf
            refine j_aload_n X dX11_lastOne_53 rfl rfl ?_
            refine j_get (C := RX11) (T := TX11) (N := 10) X iX11 0 (wX_0 ..) rfl 2 (by decide) k_312 rfl rfl dX11_lastOne_54 ?_
            refine j_get (C := RX4) (T := TX4) (N := 10) X iX4 35 (wX_35 ..) rfl 4 (by decide) k_202 rfl rfl dX11_lastOne_57 ?_
            refine j_iload_n X dX11_lastOne_60 rfl rfl ?_
            obtain ⟨c7, hf⟩ := oi_in hf
            refine j_iald X 40 (wX_40 ..) c7 dX11_lastOne_61 ?_
            refine j_aload_n X dX11_lastOne_62 rfl rfl ?_
            refine j_get (C := RX11) (T := TX11) (N := 10) X iX11 0 (wX_0 ..) rfl 0 (by decide) k_310 rfl rfl dX11_lastOne_63 ?_
            refine j_get (C := RX5) (T := TX5) (N := 8) X iX5 1 (wX_1 ..) rfl 2 (by decide) k_239 rfl rfl dX11_lastOne_66 ?_
            refine j_get (C := RX4) (T := TX4) (N := 10) X iX4 23 (wX_23 ..) rfl 6 (by decide) k_208 rfl rfl dX11_lastOne_69 ?_
            refine j_isub X dX11_lastOne_72 ?_
            refine j_keep [true, true, true, true, false] rfl ?_
            exact lab73 _ ih _ _ _ _ _ hf
          · replace hf := (if_neg c_44).symm.trans hf
            refine j_sipush (v := (201 : Int32)) X dX11_lastOne_47 (by decide) ?_
            refine j_goto (tgt := 73) X dX11_lastOne_50 (by decide) ?_
            refine j_keep [true, true, true, true, false] rfl ?_
            exact lab73 _ ih _ _ _ _ _ hf
        · replace hf := (if_pos c_30).symm.trans hf
          refine j_goto (tgt := 86) X dX11_lastOne_33 (by decide) ?_
          refine j_iinc3 (k := (1 : Int32)) X dX11_lastOne_86 (by decide) (by decide) rfl ?_
          refine j_goto (tgt := 13) X dX11_lastOne_89 (by decide) ?_
          refine j_keep [true, true, true, true, false] rfl ?_
          exact ih _ _ _ _ hf
  rw [f_X11_lastOne] at hf
  refine j_aload_n X dX11_lastOne_0 rfl rfl ?_
  refine j_sipush (v := (200 : Int32)) X dX11_lastOne_1 (by decide) ?_
  obtain ⟨q1, g_q1, hf⟩ := ob_t hf
  refine j_callV X [0, 1, 2, 3, 4, 5, 6, 7, 8, 9, 10, 11, 12, 13, 14, 15, 16, 17, 18, 19, 20, 21, 22, 23, 24, 25, 26, 27, 28, 29, 30, 31, 32, 33, 34, 35, 36, 37, 38, 39, 40, 41, 42, 43, 44, 45, 46, 47, 48, 49, 50, 51, 52, 53, 54, 55, 56, 57, 58, 59, 60, 61, 62, 63, 64, 65, 66, 67, 68, 69, 70, 71, 72, 73, 74, 75, 76, 77, 78, 79, 80, 81, 82, 83, 84] 0 (c_X11_lookAhead E h g g_q1) (cut_wX_wX_c ..) rfl rfl (ws' := (wX E h g q1)) (cut_wX_wX_w ..) (wX_0 ..) rfl k_634 k_636 k_17 k_68 k_637 (⟨rfl, rfl⟩) hdV_X11_lookAhead ⟨Nat.le_of_ble_eq_true rfl, Nat.le_of_ble_eq_true rfl⟩ rfl (Nat.le_of_ble_eq_true rfl) rfl dX11_lastOne_4 ?_
  refine j_iconst (v := (-1 : Int32)) X dX11_lastOne_7 (by decide) ?_
  refine j_istore_n1 X dX11_lastOne_8 rfl (by decide) rfl ?_
  refine j_iconst (v := (0 : Int32)) X dX11_lastOne_9 (by decide) ?_
  refine j_istore_n2 X dX11_lastOne_10 rfl (by decide) rfl ?_
  refine j_iconst (v := (0 : Int32)) X dX11_lastOne_11 (by decide) ?_
  refine j_istore_n3 X dX11_lastOne_12 rfl (by decide) rfl ?_
  refine j_keep [true, true, true, true, false] rfl ?_
  exact lab13 _ _ _ _ _ hf
