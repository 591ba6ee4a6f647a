def f_X11_minutes (μ : Mem) (x1 : Int32) : Option (Mem × Int32) := (f_X11_within x1 (1 : Int32) (200 : Int32)).bind fun q1 => ((if q1 = 0 then (f_X11_fails μ (1 : Int32)).bind fun q5 => (some (q5.1, q5.2)) else (if ((μ 23 6) + x1) ≤ (9999 : Int32) then (f_X4_pass (sub [23, 24, 25, 26, 27, 28, 7, 8, 9, 10, 11, 12, 13, 14, 66, 67, 68, 69, 70, 71, 72, 73] μ) x1).bind fun q2 => (bd (put [23, 24, 25, 26, 27, 28, 7, 8, 9, 10, 11, 12, 13, 14, 66, 67, 68, 69, 70, 71, 72, 73] μ q2.1) fun μ3 => (some (μ3, q2.2))) else (f_X11_fails μ (3 : Int32)).bind fun q4 => (some (q4.1, q4.2)))))
set_option maxHeartbeats 4000000 in
set_option maxRecDepth 20000 in
theorem c_X11_minutes (E : Ev) (h : Nat → Nat) (g : Nat → Option Nat) {μ : Mem} {x1 : Int32} {r : (Mem × Int32)} (hf : f_X11_minutes μ x1 = some r) : Ct E yX11_minutes cX11_minutes 2 (some .int) (rmOf 6 137) (wX E h g μ) (wX E h g r.1) [.ref (h 0), .int x1] (some (.int r.2)) := by
  refine ct_start RX11 0 (by decide) rfl (Nat.le_of_ble_eq_true rfl) ?_
  intro p l e s m args below meth c A Q X hr hlk hQ
  rw [f_X11_minutes] at hf
  refine j_iload_n X dX11_minutes_0 rfl rfl ?_
  refine j_iconst (v := (1 : Int32)) X dX11_minutes_1 (by decide) ?_
  refine j_sipush (v := (200 : Int32)) X dX11_minutes_2 (by decide) ?_
  obtain ⟨q1, g_q1, hf⟩ := ob_t hf
  refine j_callS X [] (c_X11_within E g_q1) rfl rfl rfl (ws' := (wX E h g μ)) rfl k_348 k_349 k_68 k_350 (⟨rfl, rfl⟩) hdS_X11_within ⟨Nat.le_of_ble_eq_true rfl, Nat.le_of_ble_eq_true rfl⟩ rfl (Nat.le_of_ble_eq_true rfl) rfl dX11_minutes_5 ?_
  refine j_if_ne (tgt := 17) X dX11_minutes_8 (by decide) (fun c_8 => ?_) (fun c_8 => ?_)
  · replace hf := (if_neg c_8).symm.trans hf
    refine j_aload_n X dX11_minutes_17 rfl rfl ?_
    refine j_get (C := RX11) (T := TX11) (N := 10) X iX11 0 (wX_0 ..) rfl 0 (by decide) k_310 rfl rfl dX11_minutes_18 ?_
    refine j_get (C := RX5) (T := TX5) (N := 8) X iX5 1 (wX_1 ..) rfl 2 (by decide) k_239 rfl rfl dX11_minutes_21 ?_
    refine j_get (C := RX4) (T := TX4) (N := 10) X iX4 23 (wX_23 ..) rfl 6 (by decide) k_208 rfl rfl dX11_minutes_24 ?_
    refine j_iload_n X dX11_minutes_27 rfl rfl ?_
    refine j_iadd X dX11_minutes_28 ?_
    refine j_sipush (v := (9999 : Int32)) X dX11_minutes_29 (by decide) ?_
    refine j_icmp_le (tgt := 41) X dX11_minutes_32 (by decide) (fun c_32 => ?_) (fun c_32 => ?_)
    · replace hf := (if_pos c_32).symm.trans hf
      refine j_aload_n X dX11_minutes_41 rfl rfl ?_
      refine j_get (C := RX11) (T := TX11) (N := 10) X iX11 0 (wX_0 ..) rfl 0 (by decide) k_310 rfl rfl dX11_minutes_42 ?_
      refine j_get (C := RX5) (T := TX5) (N := 8) X iX5 1 (wX_1 ..) rfl 2 (by decide) k_239 rfl rfl dX11_minutes_45 ?_
      refine j_iload_n X dX11_minutes_48 rfl rfl ?_
      obtain ⟨q2, g_q2, hf⟩ := ob_t hf
      obtain ⟨μ3, e_μ3, hf⟩ := bd_e hf
      refine j_callV X [23, 24, 25, 26, 27, 28, 7, 8, 9, 10, 11, 12, 13, 14, 66, 67, 68, 69, 70, 71, 72, 73] 0 (c_X4_pass E (fun j => h (List.getD [23, 24, 25, 26, 27, 28, 7, 8, 9, 10, 11, 12, 13, 14, 66, 67, 68, 69, 70, 71, 72, 73] j 0)) (fun j => g (List.getD [0, 1] j 0)) g_q2) (cut_wX_wR_23_24_25_c ..) rfl rfl (ws' := (wX E h g μ3)) (by rw [e_μ3]; exact cut_wX_wR_23_24_25_w ..) (wR_0 ..) rfl k_589 k_590 k_591 k_78 k_592 (⟨rfl, rfl⟩) hdV_X4_pass ⟨Nat.le_of_ble_eq_true rfl, Nat.le_of_ble_eq_true rfl⟩ rfl (Nat.le_of_ble_eq_true rfl) rfl dX11_minutes_49 ?_
      obtain rfl := Option.some.inj hf
      exact j_iret X hr hlk rfl dX11_minutes_52 hQ
    · replace hf := (if_neg c_32).symm.trans hf
      refine j_aload_n X dX11_minutes_35 rfl rfl ?_
      refine j_iconst (v := (3 : Int32)) X dX11_minutes_36 (by decide) ?_
      obtain ⟨q4, g_q4, hf⟩ := ob_t hf
      refine j_callV X [0, 1, 2, 3, 4, 5, 6, 7, 8, 9, 10, 11, 12, 13, 14, 15, 16, 17, 18, 19, 20, 21, 22, 23, 24, 25, 26, 27, 28, 29, 30, 31, 32, 33, 34, 35, 36, 37, 38, 39, 40, 41, 42, 43, 44, 45, 46, 47, 48, 49, 50, 51, 52, 53, 54, 55, 56, 57, 58, 59, 60, 61, 62, 63, 64, 65, 66, 67, 68, 69, 70, 71, 72, 73, 74, 75, 76, 77, 78, 79, 80, 81, 82, 83, 84] 0 (c_X11_fails E h g g_q4) (cut_wX_wX_c ..) rfl rfl (ws' := (wX E h g q4.1)) (cut_wX_wX_w ..) (wX_0 ..) rfl k_351 k_353 k_0 k_68 k_354 (⟨rfl, rfl⟩) hdV_X11_fails ⟨Nat.le_of_ble_eq_true rfl, Nat.le_of_ble_eq_true rfl⟩ rfl (Nat.le_of_ble_eq_true rfl) rfl dX11_minutes_37 ?_
      obtain rfl := Option.some.inj hf
      exact j_iret X hr hlk rfl dX11_minutes_40 hQ
  · replace hf := (if_pos c_8).symm.trans hf
    refine j_aload_n X dX11_minutes_11 rfl rfl ?_
    refine j_iconst (v := (1 : Int32)) X dX11_minutes_12 (by decide) ?_
    obtain ⟨q5, g_q5, hf⟩ := ob_t hf
    refine j_callV X [0, 1, 2, 3, 4, 5, 6, 7, 8, 9, 10, 11, 12, 13, 14, 15, 16, 17, 18, 19, 20, 21, 22, 23, 24, 25, 26, 27, 28, 29, 30, 31, 32, 33, 34, 35, 36, 37, 38, 39, 40, 41, 42, 43, 44, 45, 46, 47, 48, 49, 50, 51, 52, 53, 54, 55, 56, 57, 58, 59, 60, 61, 62, 63, 64, 65, 66, 67, 68, 69, 70, 71, 72, 73, 74, 75, 76, 77, 78, 79, 80, 81, 82, 83, 84] 0 (c_X11_fails E h g g_q5) (cut_wX_wX_c ..) rfl rfl (ws' := (wX E h g q5.1)) (cut_wX_wX_w ..) (wX_0 ..) rfl k_351 k_353 k_0 k_68 k_354 (⟨rfl, rfl⟩) hdV_X11_fails ⟨Nat.le_of_ble_eq_true rfl, Nat.le_of_ble_eq_true rfl⟩ rfl (Nat.le_of_ble_eq_true rfl) rfl dX11_minutes_13 ?_
    obtain rfl := Option.some.inj hf
    exact j_iret X hr hlk rfl dX11_minutes_16 hQ
def f_X11_fly (μ : Mem) (x1 : Int32) : Option (Mem × Int32) := (f_X11_isPost x1).bind fun q1 => ((if q1 = 0 then (f_X11_fails μ (1 : Int32)).bind fun q4 => (some (q4.1, q4.2)) else (f_X4_flyAt (sub [23, 24, 25, 26, 27, 28, 7, 8, 9, 10, 11, 12, 13, 14, 66, 67, 68, 69, 70, 71, 72, 73] μ) x1).bind fun q2 => (bd (put [23, 24, 25, 26, 27, 28, 7, 8, 9, 10, 11, 12, 13, 14, 66, 67, 68, 69, 70, 71, 72, 73] μ q2.1) fun μ3 => (some (μ3, q2.2)))))
set_option maxHeartbeats 4000000 in
set_option maxRecDepth 20000 in
theorem c_X11_fly (E : Ev) (h : Nat → Nat) (g : Nat → Option Nat) {μ : Mem} {x1 : Int32} {r : (Mem × Int32)} (hf : f_X11_fly μ x1 = some r) : Ct E yX11_fly cX11_fly 2 (some .int) (rmOf 5 115) (wX E h g μ) (wX E h g r.1) [.ref (h 0), .int x1] (some (.int r.2)) := by
  refine ct_start RX11 0 (by decide) rfl (Nat.le_of_ble_eq_true rfl) ?_
  intro p l e s m args below meth c A Q X hr hlk hQ
  rw [f_X11_fly] at hf
  refine j_iload_n X dX11_fly_0 rfl rfl ?_
  obtain ⟨q1, g_q1, hf⟩ := ob_t hf
  refine j_callS X [] (c_X11_isPost E g_q1) rfl rfl rfl (ws' := (wX E h g μ)) rfl k_500 k_501 k_68 k_502 (⟨rfl, rfl⟩) hdS_X11_isPost ⟨Nat.le_of_ble_eq_true rfl, Nat.le_of_ble_eq_true rfl⟩ rfl (Nat.le_of_ble_eq_true rfl) rfl dX11_fly_1 ?_
  refine j_if_ne (tgt := 13) X dX11_fly_4 (by decide) (fun c_4 => ?_) (fun c_4 => ?_)
  · replace hf := (if_neg c_4).symm.trans hf
    refine j_aload_n X dX11_fly_13 rfl rfl ?_
    refine j_get (C := RX11) (T := TX11) (N := 10) X iX11 0 (wX_0 ..) rfl 0 (by decide) k_310 rfl rfl dX11_fly_14 ?_
    refine j_get (C := RX5) (T := TX5) (N := 8) X iX5 1 (wX_1 ..) rfl 2 (by decide) k_239 rfl rfl dX11_fly_17 ?_
    refine j_iload_n X dX11_fly_20 rfl rfl ?_
    obtain ⟨q2, g_q2, hf⟩ := ob_t hf
    obtain ⟨μ3, e_μ3, hf⟩ := bd_e hf
    refine j_callV X [23, 24, 25, 26, 27, 28, 7, 8, 9, 10, 11, 12, 13, 14, 66, 67, 68, 69, 70, 71, 72, 73] 0 (c_X4_flyAt E (fun j => h (List.getD [23, 24, 25, 26, 27, 28, 7, 8, 9, 10, 11, 12, 13, 14, 66, 67, 68, 69, 70, 71, 72, 73] j 0)) (fun j => g (List.getD [0, 1] j 0)) g_q2) (cut_wX_wR_23_24_25_c ..) rfl rfl (ws' := (wX E h g μ3)) (by rw [e_μ3]; exact cut_wX_wR_23_24_25_w ..) (wR_0 ..) rfl k_603 k_604 k_605 k_78 k_606 (⟨rfl, rfl⟩) hdV_X4_flyAt ⟨Nat.le_of_ble_eq_true rfl, Nat.le_of_ble_eq_true rfl⟩ rfl (Nat.le_of_ble_eq_true rfl) rfl dX11_fly_21 ?_
    obtain rfl := Option.some.inj hf
    exact j_iret X hr hlk rfl dX11_fly_24 hQ
  · replace hf := (if_pos c_4).symm.trans hf
    refine j_aload_n X dX11_fly_7 rfl rfl ?_
    refine j_iconst (v := (1 : Int32)) X dX11_fly_8 (by decide) ?_
    obtain ⟨q4, g_q4, hf⟩ := ob_t hf
    refine j_callV X [0, 1, 2, 3, 4, 5, 6, 7, 8, 9, 10, 11, 12, 13, 14, 15, 16, 17, 18, 19, 20, 21, 22, 23, 24, 25, 26, 27, 28, 29, 30, 31, 32, 33, 34, 35, 36, 37, 38, 39, 40, 41, 42, 43, 44, 45, 46, 47, 48, 49, 50, 51, 52, 53, 54, 55, 56, 57, 58, 59, 60, 61, 62, 63, 64, 65, 66, 67, 68, 69, 70, 71, 72, 73, 74, 75, 76, 77, 78, 79, 80, 81, 82, 83, 84] 0 (c_X11_fails E h g g_q4) (cut_wX_wX_c ..) rfl rfl (ws' := (wX E h g q4.1)) (cut_wX_wX_w ..) (wX_0 ..) rfl k_351 k_353 k_0 k_68 k_354 (⟨rfl, rfl⟩) hdV_X11_fails ⟨Nat.le_of_ble_eq_true rfl, Nat.le_of_ble_eq_true rfl⟩ rfl (Nat.le_of_ble_eq_true rfl) rfl dX11_fly_9 ?_
    obtain rfl := Option.some.inj hf
    exact j_iret X hr hlk rfl dX11_fly_12 hQ
def f_X11_poke (μ : Mem) (x1 : Int32) : Option (Mem × Int32) := (f_X11_isStander x1).bind fun q1 => ((if q1 = 0 then (f_X11_fails μ (1 : Int32)).bind fun q7 => (some (q7.1, q7.2)) else (f_X4_stands (sub [23, 24, 25, 26, 27, 28, 7, 8, 9, 10, 11, 12, 13, 14, 66, 67, 68, 69, 70, 71, 72, 73] μ) x1).bind fun q2 => (bd (put [23, 24, 25, 26, 27, 28, 7, 8, 9, 10, 11, 12, 13, 14, 66, 67, 68, 69, 70, 71, 72, 73] μ q2.1) fun μ3 => ((if q2.2 = 0 then (f_X11_fails μ3 (3 : Int32)).bind fun q6 => (some (q6.1, q6.2)) else (f_X4_pokeOne (sub [23, 24, 25, 26, 27, 28, 7, 8, 9, 10, 11, 12, 13, 14, 66, 67, 68, 69, 70, 71, 72, 73] μ3) x1).bind fun q4 => (bd (put [23, 24, 25, 26, 27, 28, 7, 8, 9, 10, 11, 12, 13, 14, 66, 67, 68, 69, 70, 71, 72, 73] μ3 q4.1) fun μ5 => (some (μ5, q4.2))))))))
set_option maxHeartbeats 4000000 in
set_option maxRecDepth 20000 in
theorem c_X11_poke (E : Ev) (h : Nat → Nat) (g : Nat → Option Nat) {μ : Mem} {x1 : Int32} {r : (Mem × Int32)} (hf : f_X11_poke μ x1 = some r) : Ct E yX11_poke cX11_poke 2 (some .int) (rmOf 5 114) (wX E h g μ) (wX E h g r.1) [.ref (h 0), .int x1] (some (.int r.2)) := by
  refine ct_start RX11 0 (by decide) rfl (Nat.le_of_ble_eq_true rfl) ?_
  intro p l e s m args below meth c A Q X hr hlk hQ
  rw [f_X11_poke] at hf
  refine j_iload_n X dX11_poke_0 rfl rfl ?_
  obtain ⟨q1, g_q1, hf⟩ := ob_t hf
  refine j_callS X [] (c_X11_isStander E g_q1) rfl rfl rfl (ws' := (wX E h g μ)) rfl k_345 k_346 k_68 k_347 (⟨rfl, rfl⟩) hdS_X11_isStander ⟨Nat.le_of_ble_eq_true rfl, Nat.le_of_ble_eq_true rfl⟩ rfl (Nat.le_of_ble_eq_true rfl) rfl dX11_poke_1 ?_
  refine j_if_ne (tgt := 13) X dX11_poke_4 (by decide) (fun c_4 => ?_) (fun c_4 => ?_)
  · replace hf := (if_neg c_4).symm.trans hf
    refine j_aload_n X dX11_poke_13 rfl rfl ?_
    refine j_get (C := RX11) (T := TX11) (N := 10) X iX11 0 (wX_0 ..) rfl 0 (by decide) k_310 rfl rfl dX11_poke_14 ?_
    refine j_get (C := RX5) (T := TX5) (N := 8) X iX5 1 (wX_1 ..) rfl 2 (by decide) k_239 rfl rfl dX11_poke_17 ?_
    refine j_iload_n X dX11_poke_20 rfl rfl ?_
    obtain ⟨q2, g_q2, hf⟩ := ob_t hf
    obtain ⟨μ3, e_μ3, hf⟩ := bd_e hf
    refine j_callV X [23, 24, 25, 26, 27, 28, 7, 8, 9, 10, 11, 12, 13, 14, 66, 67, 68, 69, 70, 71, 72, 73] 0 (c_X4_stands E (fun j => h (List.getD [23, 24, 25, 26, 27, 28, 7, 8, 9, 10, 11, 12, 13, 14, 66, 67, 68, 69, 70, 71, 72, 73] j 0)) (fun j => g (List.getD [0, 1] j 0)) g_q2) (cut_wX_wR_23_24_25_c ..) rfl rfl (ws' := (wX E h g μ3)) (by rw [e_μ3]; exact cut_wX_wR_23_24_25_w ..) (wR_0 ..) rfl k_454 k_455 k_456 k_78 k_457 (⟨rfl, rfl⟩) hdV_X4_stands ⟨Nat.le_of_ble_eq_true rfl, Nat.le_of_ble_eq_true rfl⟩ rfl (Nat.le_of_ble_eq_true rfl) rfl dX11_poke_21 ?_
    refine j_if_ne (tgt := 33) X dX11_poke_24 (by decide) (fun c_24 => ?_) (fun c_24 => ?_)
    · replace hf := (if_neg c_24).symm.trans hf
      refine j_aload_n X dX11_poke_33 rfl rfl ?_
      refine j_get (C := RX11) (T := TX11) (N := 10) X iX11 0 (wX_0 ..) rfl 0 (by decide) k_310 rfl rfl dX11_poke_34 ?_
      refine j_get (C := RX5) (T := TX5) (N := 8) X iX5 1 (wX_1 ..) rfl 2 (by decide) k_239 rfl rfl dX11_poke_37 ?_
      refine j_iload_n X dX11_poke_40 rfl rfl ?_
      obtain ⟨q4, g_q4, hf⟩ := ob_t hf
      obtain ⟨μ5, e_μ5, hf⟩ := bd_e hf
      refine j_callV X [23, 24, 25, 26, 27, 28, 7, 8, 9, 10, 11, 12, 13, 14, 66, 67, 68, 69, 70, 71, 72, 73] 0 (c_X4_pokeOne E (fun j => h (List.getD [23, 24, 25, 26, 27, 28, 7, 8, 9, 10, 11, 12, 13, 14, 66, 67, 68, 69, 70, 71, 72, 73] j 0)) (fun j => g (List.getD [0, 1] j 0)) g_q4) (cut_wX_wR_23_24_25_c ..) rfl rfl (ws' := (wX E h g μ5)) (by rw [e_μ5]; exact cut_wX_wR_23_24_25_w ..) (wR_0 ..) rfl k_613 k_614 k_615 k_78 k_616 (⟨rfl, rfl⟩) hdV_X4_pokeOne ⟨Nat.le_of_ble_eq_true rfl, Nat.le_of_ble_eq_true rfl⟩ rfl (Nat.le_of_ble_eq_true rfl) rfl dX11_poke_41 ?_
      obtain rfl := Option.some.inj hf
      exact j_iret X hr hlk rfl dX11_poke_44 hQ
    · replace hf := (if_pos c_24).symm.trans hf
      refine j_aload_n X dX11_poke_27 rfl rfl ?_
      refine j_iconst (v := (3 : Int32)) X dX11_poke_28 (by decide) ?_
      obtain ⟨q6, g_q6, hf⟩ := ob_t hf
      refine j_callV X [0, 1, 2, 3, 4, 5, 6, 7, 8, 9, 10, 11, 12, 13, 14, 15, 16, 17, 18, 19, 20, 21, 22, 23, 24, 25, 26, 27, 28, 29, 30, 31, 32, 33, 34, 35, 36, 37, 38, 39, 40, 41, 42, 43, 44, 45, 46, 47, 48, 49, 50, 51, 52, 53, 54, 55, 56, 57, 58, 59, 60, 61, 62, 63, 64, 65, 66, 67, 68, 69, 70, 71, 72, 73, 74, 75, 76, 77, 78, 79, 80, 81, 82, 83, 84] 0 (c_X11_fails E h g g_q6) (cut_wX_wX_c ..) rfl rfl (ws' := (wX E h g q6.1)) (cut_wX_wX_w ..) (wX_0 ..) rfl k_351 k_353 k_0 k_68 k_354 (⟨rfl, rfl⟩) hdV_X11_fails ⟨Nat.le_of_ble_eq_true rfl, Nat.le_of_ble_eq_true rfl⟩ rfl (Nat.le_of_ble_eq_true rfl) rfl dX11_poke_29 ?_
      obtain rfl := Option.some.inj hf
      exact j_iret X hr hlk rfl dX11_poke_32 hQ
  · replace hf := (if_pos c_4).symm.trans hf
    refine j_aload_n X dX11_poke_7 rfl rfl ?_
    refine j_iconst (v := (1 : Int32)) X dX11_poke_8 (by decide) ?_
    obtain ⟨q7, g_q7, hf⟩ := ob_t hf
    refine j_callV X [0, 1, 2, 3, 4, 5, 6, 7, 8, 9, 10, 11, 12, 13, 14, 15, 16, 17, 18, 19, 20, 21, 22, 23, 24, 25, 26, 27, 28, 29, 30, 31, 32, 33, 34, 35, 36, 37, 38, 39, 40, 41, 42, 43, 44, 45, 46, 47, 48, 49, 50, 51, 52, 53, 54, 55, 56, 57, 58, 59, 60, 61, 62, 63, 64, 65, 66, 67, 68, 69, 70, 71, 72, 73, 74, 75, 76, 77, 78, 79, 80, 81, 82, 83, 84] 0 (c_X11_fails E h g g_q7) (cut_wX_wX_c ..) rfl rfl (ws' := (wX E h g q7.1)) (cut_wX_wX_w ..) (wX_0 ..) rfl k_351 k_353 k_0 k_68 k_354 (⟨rfl, rfl⟩) hdV_X11_fails ⟨Nat.le_of_ble_eq_true rfl, Nat.le_of_ble_eq_true rfl⟩ rfl (Nat.le_of_ble_eq_true rfl) rfl dX11_poke_9 ?_
    obtain rfl := Option.some.inj hf
    exact j_iret X hr hlk rfl dX11_poke_12 hQ
def f_X11_draws_L20 : Nat → Mem → Int32 → Int32 → Int32 → Option (Mem × Int32)
  | 0, _, _, _, _ => none
  | n + 1, μ, x1, x2, x3 => (if x1 ≤ x3 then some (μ, x2) else (f_X5_draw (sub [1] μ)).bind fun q2 => (bd (put [1] μ q2.1) fun μ3 => ((f_X4_flyAt (sub [23, 24, 25, 26, 27, 28, 7, 8, 9, 10, 11, 12, 13, 14, 66, 67, 68, 69, 70, 71, 72, 73] μ3) (q2.2 - q2.2 / (9 : Int32) * (9 : Int32))).bind fun q4 => (bd (put [23, 24, 25, 26, 27, 28, 7, 8, 9, 10, 11, 12, 13, 14, 66, 67, 68, 69, 70, 71, 72, 73] μ3 q4.1) fun μ5 => (bd (x2 + q4.2) fun y6 => ((f_X11_draws_L20 n) μ5 x1 y6 (x3 + (1 : Int32))))))))
def f_X11_draws (μ : Mem) (x1 : Int32) : Option (Mem × Int32) := (f_X11_within x1 (1 : Int32) (60 : Int32)).bind fun q1 => ((if q1 = 0 then (f_X11_fails μ (1 : Int32)).bind fun q7 => (some (q7.1, q7.2)) else f_X11_draws_L20 fuel0 μ x1 (0 : Int32) (0 : Int32)))
set_option maxHeartbeats 4000000 in
set_option maxRecDepth 20000 in
theorem c_X11_draws (E : Ev) (h : Nat → Nat) (g : Nat → Option Nat) {μ : Mem} {x1 : Int32} {r : (Mem × Int32)} (hf : f_X11_draws μ x1 = some r) : Ct E yX11_draws cX11_draws 4 (some .int) (rmOf 5 115) (wX E h g μ) (wX E h g r.1) [.ref (h 0), .int x1] (some (.int r.2)) := by
  refine ct_start RX11 2 (by decide) rfl (Nat.le_of_ble_eq_true rfl) ?_
  intro p l e s m args below meth c A Q X hr hlk hQ
  have lab20 : ∀ (n : Nat) (μ : Mem) (x1 : Int32) (x2 : Int32) (x3 : Int32), f_X11_draws_L20 n μ x1 x2 x3 = some r → J p l e (rmOf 5 115) s m args below meth c E A 4 Q (wX E h g μ) [some (.ref (h 0)), some (.int x1), some (.int x2), some (.int x3)] 20 [] := by
    intro n
    induction n with
    | zero => intro μ x1 x2 x3 hf; cases (show none = some r from hf)
    | succ n ih =>
      intro μ x1 x2 x3 hf
      rw [f_X11_draws_L20] at hf
      refine j_iload_n X dX11_draws_20 rfl rfl ?_
      refine j_iload_n X dX11_draws_21 rfl rfl ?_
      refine j_icmp_ge (tgt := 54) X dX11_draws_22 (by decide) (fun c_22 => ?_) (fun c_22 => ?_)
      · replace hf := (if_pos c_22).symm.trans hf
        refine j_iload_n X dX11_draws_54 rfl rfl ?_
        obtain rfl := Option.some.inj hf
        exact j_iret X hr hlk rfl dX11_draws_55 hQ
      · replace hf := (if_neg c_22).symm.trans hf
        refine j_iload_n X dX11_draws_25 rfl rfl ?_
        refine j_aload_n X dX11_draws_26 rfl rfl ?_
        refine j_get (C := RX11) (T := TX11) (N := 10) X iX11 0 (wX_0 ..) rfl 0 (by decide) k_310 rfl rfl dX11_draws_27 ?_
        refine j_get (C := RX5) (T := TX5) (N := 8) X iX5 1 (wX_1 ..) rfl 2 (by decide) k_239 rfl rfl dX11_draws_30 ?_
        refine j_aload_n X dX11_draws_33 rfl rfl ?_
        refine j_get (C := RX11) (T := TX11) (N := 10) X iX11 0 (wX_0 ..) rfl 0 (by decide) k_310 rfl rfl dX11_draws_34 ?_
        obtain ⟨q2, g_q2, hf⟩ := ob_t hf
        obtain ⟨μ3, e_μ3, hf⟩ := bd_e hf
        refine j_callV X [1] 0 (c_X5_draw E (fun j => h (List.getD [1, 7, 11, 23, 2, 3] j 0)) (fun j => g (List.getD [] j 0)) g_q2) (cut_wX_wZ_1_7_11_c ..) rfl rfl (ws' := (wX E h g μ3)) (by rw [e_μ3]; exact cut_wX_wZ_1_7_11_w ..) (wZ_0 ..) rfl k_621 k_622 k_623 k_76 k_624 (⟨rfl, rfl⟩) hdV_X5_draw ⟨Nat.le_of_ble_eq_true rfl, Nat.le_of_ble_eq_true rfl⟩ rfl (Nat.le_of_ble_eq_true rfl) rfl dX11_draws_37 ?_
        refine j_bipush (v := (9 : Int32)) X dX11_draws_40 (by decide) ?_
        refine j_irem X dX11_draws_42 (by decide) ?_
        obtain ⟨q4, g_q4, hf⟩ := ob_t hf
        obtain ⟨μ5, e_μ5, hf⟩ := bd_e hf
        refine j_callV X [23, 24, 25, 26, 27, 28, 7, 8, 9, 10, 11, 12, 13, 14, 66, 67, 68, 69, 70, 71, 72, 73] 0 (c_X4_flyAt E (fun j => h (List.getD [23, 24, 25, 26, 27, 28, 7, 8, 9, 10, 11, 12, 13, 14, 66, 67, 68, 69, 70, 71, 72, 73] j 0)) (fun j => g (List.getD [0, 1] j 0)) g_q4) (cut_wX_wR_23_24_25_c ..) rfl rfl (ws' := (wX E h g μ5)) (by rw [e_μ5]; exact cut_wX_wR_23_24_25_w ..) (wR_0 ..) rfl k_603 k_604 k_605 k_78 k_606 (⟨rfl, rfl⟩) hdV_X4_flyAt ⟨Nat.le_of_ble_eq_true rfl, Nat.le_of_ble_eq_true rfl⟩ rfl (Nat.le_of_ble_eq_true rfl) rfl dX11_draws_43 ?_
        refine j_iadd X dX11_draws_46 ?_
        obtain ⟨y6, e_y6, hf⟩ := bd_e hf
        refine j_top e_y6 ?_
        refine j_istore_n2 X dX11_draws_47 rfl (by decide) rfl ?_
        refine j_iinc3 (k := (1 : Int32)) X dX11_draws_48 (by decide) (by decide) rfl ?_
        refine j_goto (tgt := 20) X dX11_draws_51 (by decide) ?_
        refine j_keep [true, true, true, true] rfl ?_
        exact ih _ _ _ _ hf
  rw [f_X11_draws] at hf
  refine j_iload_n X dX11_draws_0 rfl rfl ?_
  refine j_iconst (v := (1 : Int32)) X dX11_draws_1 (by decide) ?_
  refine j_bipush (v := (60 : Int32)) X dX11_draws_2 (by decide) ?_
  obtain ⟨q1, g_q1, hf⟩ := ob_t hf
  refine j_callS X [] (c_X11_within E g_q1) rfl rfl rfl (ws' := (wX E h g μ)) rfl k_348 k_349 k_68 k_350 (⟨rfl, rfl⟩) hdS_X11_within ⟨Nat.le_of_ble_eq_true rfl, Nat.le_of_ble_eq_true rfl⟩ rfl (Nat.le_of_ble_eq_true rfl) rfl dX11_draws_4 ?_
  refine j_if_ne (tgt := 16) X dX11_draws_7 (by decide) (fun c_7 => ?_) (fun c_7 => ?_)
  · replace hf := (if_neg c_7).symm.trans hf
    refine j_iconst (v := (0 : Int32)) X dX11_draws_16 (by decide) ?_
    refine j_istore_n2 X dX11_draws_17 rfl (by decide) rfl ?_
    refine j_iconst (v := (0 : Int32)) X dX11_draws_18 (by decide) ?_
    refine j_istore_n3 X dX11_draws_19 rfl (by decide) rfl ?_
    refine j_keep [true, true, true, true] rfl ?_
    exact lab20 _ _ _ _ _ hf
  · replace hf := (if_pos c_7).symm.trans hf
    refine j_aload_n X dX11_draws_10 rfl rfl ?_
    refine j_iconst (v := (1 : Int32)) X dX11_draws_11 (by decide) ?_
    obtain ⟨q7, g_q7, hf⟩ := ob_t hf
    refine j_callV X [0, 1, 2, 3, 4, 5, 6, 7, 8, 9, 10, 11, 12, 13, 14, 15, 16, 17, 18, 19, 20, 21, 22, 23, 24, 25, 26, 27, 28, 29, 30, 31, 32, 33, 34, 35, 36, 37, 38, 39, 40, 41, 42, 43, 44, 45, 46, 47, 48, 49, 50, 51, 52, 53, 54, 55, 56, 57, 58, 59, 60, 61, 62, 63, 64, 65, 66, 67, 68, 69, 70, 71, 72, 73, 74, 75, 76, 77, 78, 79, 80, 81, 82, 83, 84] 0 (c_X11_fails E h g g_q7) (cut_wX_wX_c ..) rfl rfl (ws' := (wX E h g q7.1)) (cut_wX_wX_w ..) (wX_0 ..) rfl k_351 k_353 k_0 k_68 k_354 (⟨rfl, rfl⟩) hdV_X11_fails ⟨Nat.le_of_ble_eq_true rfl, Nat.le_of_ble_eq_true rfl⟩ rfl (Nat.le_of_ble_eq_true rfl) rfl dX11_draws_12 ?_
    obtain rfl := Option.some.inj hf
    exact j_iret X hr hlk rfl dX11_draws_15 hQ
def f_X11_seed (μ : Mem) (x1 : Int32) : Option (Mem × Int32) := bd (μ 1 7) fun y1 => (bd (upA μ 1 (upd (μ 1) 7 x1)) fun μ2 => (some (μ2, y1)))
set_option maxHeartbeats 4000000 in
set_option maxRecDepth 20000 in
theorem c_X11_seed (E : Ev) (h : Nat → Nat) (g : Nat → Option Nat) {μ : Mem} {x1 : Int32} {r : (Mem × Int32)} (hf : f_X11_seed μ x1 = some r) : Ct E yX11_seed cX11_seed 3 (some .int) (rmOf 0 0) (wX E h g μ) (wX E h g r.1) [.ref (h 0), .int x1] (some (.int r.2)) := by
  refine ct_start RX11 1 (by decide) rfl (Nat.le_of_ble_eq_true rfl) ?_
  intro p l e s m args below meth c A Q X hr hlk hQ
  rw [f_X11_seed] at hf
  refine j_aload_n X dX11_seed_0 rfl rfl ?_
  refine j_get (C := RX11) (T := TX11) (N := 10) X iX11 0 (wX_0 ..) rfl 0 (by decide) k_310 rfl rfl dX11_seed_1 ?_
  refine j_get (C := RX5) (T := TX5) (N := 8) X iX5 1 (wX_1 ..) rfl 7 (by decide) k_249 rfl rfl dX11_seed_4 ?_
  obtain ⟨y1, e_y1, hf⟩ := bd_e hf
  refine j_top e_y1 ?_
  refine j_istore_n2 X dX11_seed_7 rfl (by decide) rfl ?_
  refine j_aload_n X dX11_seed_8 rfl rfl ?_
  refine j_get (C := RX11) (T := TX11) (N := 10) X iX11 0 (wX_0 ..) rfl 0 (by decide) k_310 rfl rfl dX11_seed_9 ?_
  refine j_iload_n X dX11_seed_12 rfl rfl ?_
  obtain ⟨μ2, e_μ2, hf⟩ := bd_e hf
  refine j_put (C := RX5) (T := TX5) (N := 8) X iX5 1 (wX_1 ..) rfl 7 (by decide) k_249 rfl tyX5 tyX5_ok nmX5 rfl (ty := .int) (by decide +kernel) rfl rfl (Nat.le_of_ble_eq_true rfl) dX11_seed_13 (ws' := (wX E h g μ2)) (by rw [e_μ2]; exact wX_f1_7 ..) ?_
  refine j_iload_n X dX11_seed_16 rfl rfl ?_
  obtain rfl := Option.some.inj hf
  exact j_iret X hr hlk rfl dX11_seed_17 hQ
theorem cut_wX_wRC_35_36_37_c (E : Ev) (h : Nat → Nat) (g : Nat → Option Nat) (μ : Mem) : ([35, 36, 37, 38, 39, 40, 23, 24, 25, 26, 27, 28] : List Nat).map (fun i => (wX E h g μ)[i]?) = (wRC E (fun j => h (List.getD [35, 36, 37, 38, 39, 40, 23, 24, 25, 26, 27, 28, 7, 11, 66, 7, 11, 66] j 0)) (fun j => g (List.getD ([] : List Nat) j 0)) (sub [35, 36, 37, 38, 39, 40, 23, 24, 25, 26, 27, 28] μ)).map some := rfl
theorem cut_wX_wRC_35_36_37_w (E : Ev) (h : Nat → Nat) (g : Nat → Option Nat) (μ : Mem) (ν : Mem) : putW (wX E h g μ) [35, 36, 37, 38, 39, 40, 23, 24, 25, 26, 27, 28] (wRC E (fun j => h (List.getD [35, 36, 37, 38, 39, 40, 23, 24, 25, 26, 27, 28, 7, 11, 66, 7, 11, 66] j 0)) (fun j => g (List.getD ([] : List Nat) j 0)) ν) = wX E h g (put [35, 36, 37, 38, 39, 40, 23, 24, 25, 26, 27, 28] μ ν) := putW_A (by decide +kernel) rfl rfl
theorem cut_wX_wR_35_36_37_c (E : Ev) (h : Nat → Nat) (g : Nat → Option Nat) (μ : Mem) : ([35, 36, 37, 38, 39, 40, 7, 8, 9, 10, 11, 12, 13, 14, 66, 67, 68, 69, 70, 71, 72, 73] : List Nat).map (fun i => (wX E h g μ)[i]?) = (wR E (fun j => h (List.getD [35, 36, 37, 38, 39, 40, 7, 8, 9, 10, 11, 12, 13, 14, 66, 67, 68, 69, 70, 71, 72, 73] j 0)) (fun j => g (List.getD [0, 1] j 0)) (sub [35, 36, 37, 38, 39, 40, 7, 8, 9, 10, 11, 12, 13, 14, 66, 67, 68, 69, 70, 71, 72, 73] μ)).map some := rfl
theorem cut_wX_wR_35_36_37_w (E : Ev) (h : Nat → Nat) (g : Nat → Option Nat) (μ : Mem) (ν : Mem) : putW (wX E h g μ) [35, 36, 37, 38, 39, 40, 7, 8, 9, 10, 11, 12, 13, 14, 66, 67, 68, 69, 70, 71, 72, 73] (wR E (fun j => h (List.getD [35, 36, 37, 38, 39, 40, 7, 8, 9, 10, 11, 12, 13, 14, 66, 67, 68, 69, 70, 71, 72, 73] j 0)) (fun j => g (List.getD [0, 1] j 0)) ν) = wX E h g (put [35, 36, 37, 38, 39, 40, 7, 8, 9, 10, 11, 12, 13, 14, 66, 67, 68, 69, 70, 71, 72, 73] μ ν) := putW_A (by decide +kernel) rfl rfl
def f_X11_lookAhead (μ : Mem) (x1 : Int32) : Option Mem := (f_X4_copyFrom (sub [35, 36, 37, 38, 39, 40, 23, 24, 25, 26, 27, 28] μ)).bind fun q1 => (bd (put [35, 36, 37, 38, 39, 40, 23, 24, 25, 26, 27, 28] μ q1) fun μ2 => ((f_X4_pass (sub [35, 36, 37, 38, 39, 40, 7, 8, 9, 10, 11, 12, 13, 14, 66, 67, 68, 69, 70, 71, 72, 73] μ2) x1).bind fun q3 => (bd (put [35, 36, 37, 38, 39, 40, 7, 8, 9, 10, 11, 12, 13, 14, 66, 67, 68, 69, 70, 71, 72, 73] μ2 q3.1) fun μ4 => (some μ4))))
set_option maxHeartbeats 4000000 in
set_option maxRecDepth 20000 in
theorem c_X11_lookAhead (E : Ev) (h : Nat → Nat) (g : Nat → Option Nat) {μ : Mem} {x1 : Int32} {r : Mem} (hf : f_X11_lookAhead μ x1 = some r) : Ct E yX11_lookAhead cX11_lookAhead 2 none (rmOf 6 137) (wX E h g μ) (wX E h g r) [.ref (h 0), .int x1] none := by
  refine ct_start RX11 0 (by decide) rfl (Nat.le_of_ble_eq_true rfl) ?_
  intro p l e s m args below meth c A Q X hr hlk hQ
  rw [f_X11_lookAhead] at hf
  refine j_aload_n X dX11_lookAhead_0 rfl rfl ?_
  refine j_get (C := RX11) (T := TX11) (N := 10) X iX11 0 (wX_0 ..) rfl 2 (by decide) k_312 rfl rfl dX11_lookAhead_1 ?_
  refine j_aload_n X dX11_lookAhead_4 rfl rfl ?_
  refine j_get (C := RX11) (T := TX11) (N := 10) X iX11 0 (wX_0 ..) rfl 0 (by decide) k_310 rfl rfl dX11_lookAhead_5 ?_
  refine j_get (C := RX5) (T := TX5) (N := 8) X iX5 1 (wX_1 ..) rfl 2 (by decide) k_239 rfl rfl dX11_lookAhead_8 ?_
  obtain ⟨q1, g_q1, hf⟩ := ob_t hf
  obtain ⟨μ2, e_μ2, hf⟩ := bd_e hf
  refine j_callV X [35, 36, 37, 38, 39, 40, 23, 24, 25, 26, 27, 28] 0 (c_X4_copyFrom E (fun j => h (List.getD [35, 36, 37, 38, 39, 40, 23, 24, 25, 26, 27, 28, 7, 11, 66, 7, 11, 66] j 0)) (fun j => g (List.getD [] j 0)) g_q1) (cut_wX_wRC_35_36_37_c ..) rfl rfl (ws' := (wX E h g μ2)) (by rw [e_μ2]; exact cut_wX_wRC_35_36_37_w ..) (wRC_0 ..) rfl k_638 k_639 k_640 k_78 k_641 (⟨rfl, rfl⟩) hdV_X4_copyFrom ⟨Nat.le_of_ble_eq_true rfl, Nat.le_of_ble_eq_true rfl⟩ rfl (Nat.le_of_ble_eq_true rfl) rfl dX11_lookAhead_11 ?_
  refine j_aload_n X dX11_lookAhead_14 rfl rfl ?_
  refine j_get (C := RX11) (T := TX11) (N := 10) X iX11 0 (wX_0 ..) rfl 2 (by decide) k_312 rfl rfl dX11_lookAhead_15 ?_
  refine j_iload_n X dX11_lookAhead_18 rfl rfl ?_
  obtain ⟨q3, g_q3, hf⟩ := ob_t hf
  obtain ⟨μ4, e_μ4, hf⟩ := bd_e hf
  refine j_callV X [35, 36, 37, 38, 39, 40, 7, 8, 9, 10, 11, 12, 13, 14, 66, 67, 68, 69, 70, 71, 72, 73] 0 (c_X4_pass E (fun j => h (List.getD [35, 36, 37, 38, 39, 40, 7, 8, 9, 10, 11, 12, 13, 14, 66, 67, 68, 69, 70, 71, 72, 73] j 0)) (fun j => g (List.getD [0, 1] j 0)) g_q3) (cut_wX_wR_35_36_37_c ..) rfl rfl (ws' := (wX E h g μ4)) (by rw [e_μ4]; exact cut_wX_wR_35_36_37_w ..) (wR_0 ..) rfl k_589 k_590 k_591 k_78 k_592 (⟨rfl, rfl⟩) hdV_X4_pass ⟨Nat.le_of_ble_eq_true rfl, Nat.le_of_ble_eq_true rfl⟩ rfl (Nat.le_of_ble_eq_true rfl) rfl dX11_lookAhead_19 ?_
  refine j_pop X dX11_lookAhead_22 rfl ?_
  obtain rfl := Option.some.inj hf
  exact j_vret X hr hlk dX11_lookAhead_23 hQ
def f_X11_then (μ : Mem) (x1 : Int32) (x2 : Int32) (x3 : Int32) : Option (Mem × Int32) := (f_X11_within x1 (0 : Int32) (200 : Int32)).bind fun q1 => ((if q1 = 0 then (f_X11_fails μ (1 : Int32)).bind fun q2 => (some (q2.1, q2.2)) else (f_X11_isStander x2).bind fun q3 => ((if q3 = 0 then (f_X11_fails μ (1 : Int32)).bind fun q4 => (some (q4.1, q4.2)) else (f_X11_within x3 (2 : Int32) (4 : Int32)).bind fun q5 => ((if q5 = 0 then (f_X11_fails μ (1 : Int32)).bind fun q9 => (some (q9.1, q9.2)) else (f_X11_lookAhead μ x1).bind fun q6 => ((f_X4_is (sub [35, 36, 37, 38, 39, 40, 7, 8, 9, 10, 11, 12, 13, 14, 66, 67, 68, 69, 70, 71, 72, 73] q6) x2 x3).bind fun q7 => (bd (put [35, 36, 37, 38, 39, 40, 7, 8, 9, 10, 11, 12, 13, 14, 66, 67, 68, 69, 70, 71, 72, 73] q6 q7.1) fun μ8 => (some (μ8, q7.2))))))))))
set_option maxHeartbeats 4000000 in
set_option maxRecDepth 20000 in
theorem c_X11_then (E : Ev) (h : Nat → Nat) (g : Nat → Option Nat) {μ : Mem} {x1 : Int32} {x2 : Int32} {x3 : Int32} {r : (Mem × Int32)} (hf : f_X11_then μ x1 x2 x3 = some r) : Ct E yX11_then cX11_then 4 (some .int) (rmOf 7 158) (wX E h g μ) (wX E h g r.1) [.ref (h 0), .int x1, .int x2, .int x3] (some (.int r.2)) := by
  refine ct_start RX11 0 (by decide) rfl (Nat.le_of_ble_eq_true rfl) ?_
  intro p l e s m args below meth c A Q X hr hlk hQ
  rw [f_X11_then] at hf
  refine j_iload_n X dX11_then_0 rfl rfl ?_
  refine j_iconst (v := (0 : Int32)) X dX11_then_1 (by decide) ?_
  refine j_sipush (v := (200 : Int32)) X dX11_then_2 (by decide) ?_
  obtain ⟨q1, g_q1, hf⟩ := ob_t hf
  refine j_callS X [] (c_X11_within E g_q1) rfl rfl rfl (ws' := (wX E h g μ)) rfl k_348 k_349 k_68 k_350 (⟨rfl, rfl⟩) hdS_X11_within ⟨Nat.le_of_ble_eq_true rfl, Nat.le_of_ble_eq_true rfl⟩ rfl (Nat.le_of_ble_eq_true rfl) rfl dX11_then_5 ?_
  refine j_if_eq (tgt := 27) X dX11_then_8 (by decide) (fun c_8 => ?_) (fun c_8 => ?_)
  · replace hf := (if_pos c_8).symm.trans hf
    refine j_aload_n X dX11_then_27 rfl rfl ?_
    refine j_iconst (v := (1 : Int32)) X dX11_then_28 (by decide) ?_
    obtain ⟨q2, g_q2, hf⟩ := ob_t hf
    refine j_callV X [0, 1, 2, 3, 4, 5, 6, 7, 8, 9, 10, 11, 12, 13, 14, 15, 16, 17, 18, 19, 20, 21, 22, 23, 24, 25, 26, 27, 28, 29, 30, 31, 32, 33, 34, 35, 36, 37, 38, 39, 40, 41, 42, 43, 44, 45, 46, 47, 48, 49, 50, 51, 52, 53, 54, 55, 56, 57, 58, 59, 60, 61, 62, 63, 64, 65, 66, 67, 68, 69, 70, 71, 72, 73, 74, 75, 76, 77, 78, 79, 80, 81, 82, 83, 84] 0 (c_X11_fails E h g g_q2) (cut_wX_wX_c ..) rfl rfl (ws' := (wX E h g q2.1)) (cut_wX_wX_w ..) (wX_0 ..) rfl k_351 k_353 k_0 k_68 k_354 (⟨rfl, rfl⟩) hdV_X11_fails ⟨Nat.le_of_ble_eq_true rfl, Nat.le_of_ble_eq_true rfl⟩ rfl (Nat.le_of_ble_eq_true rfl) rfl dX11_then_29 ?_
    obtain rfl := Option.some.inj hf
    exact j_iret X hr hlk rfl dX11_then_32 hQ
  · replace hf := (if_neg c_8).symm.trans hf
    refine j_iload_n X dX11_then_11 rfl rfl ?_
    obtain ⟨q3, g_q3, hf⟩ := ob_t hf
    refine j_callS X [] (c_X11_isStander E g_q3) rfl rfl rfl (ws' := (wX E h g μ)) rfl k_345 k_346 k_68 k_347 (⟨rfl, rfl⟩) hdS_X11_isStander ⟨Nat.le_of_ble_eq_true rfl, Nat.le_of_ble_eq_true rfl⟩ rfl (Nat.le_of_ble_eq_true rfl) rfl dX11_then_12 ?_
    refine j_if_eq (tgt := 27) X dX11_then_15 (by decide) (fun c_15 => ?_) (fun c_15 => ?_)
    · replace hf := (if_pos c_15).symm.trans hf
      refine j_aload_n X dX11_then_27 rfl rfl ?_
      refine j_iconst (v := (1 : Int32)) X dX11_then_28 (by decide) ?_
      obtain ⟨q4, g_q4, hf⟩ := ob_t hf
      refine j_callV X [0, 1, 2, 3, 4, 5, 6, 7, 8, 9, 10, 11, 12, 13, 14, 15, 16, 17, 18, 19, 20, 21, 22, 23, 24, 25, 26, 27, 28, 29, 30, 31, 32, 33, 34, 35, 36, 37, 38, 39, 40, 41, 42, 43, 44, 45, 46, 47, 48, 49, 50, 51, 52, 53, 54, 55, 56, 57, 58, 59, 60, 61, 62, 63, 64, 65, 66, 67, 68, 69, 70, 71, 72, 73, 74, 75, 76, 77, 78, 79, 80, 81, 82, 83, 84] 0 (c_X11_fails E h g g_q4) (cut_wX_wX_c ..) rfl rfl (ws' := (wX E h g q4.1)) (cut_wX_wX_w ..) (wX_0 ..) rfl k_351 k_353 k_0 k_68 k_354 (⟨rfl, rfl⟩) hdV_X11_fails ⟨Nat.le_of_ble_eq_true rfl, Nat.le_of_ble_eq_true rfl⟩ rfl (Nat.le_of_ble_eq_true rfl) rfl dX11_then_29 ?_
      obtain rfl := Option.some.inj hf
      exact j_iret X hr hlk rfl dX11_then_32 hQ
    · replace hf := (if_neg c_15).symm.trans hf
      refine j_iload_n X dX11_then_18 rfl rfl ?_
      refine j_iconst (v := (2 : Int32)) X dX11_then_19 (by decide) ?_
      refine j_iconst (v := (4 : Int32)) X dX11_then_20 (by decide) ?_
      obtain ⟨q5, g_q5, hf⟩ := ob_t hf
      refine j_callS X [] (c_X11_within E g_q5) rfl rfl rfl (ws' := (wX E h g μ)) rfl k_348 k_349 k_68 k_350 (⟨rfl, rfl⟩) hdS_X11_within ⟨Nat.le_of_ble_eq_true rfl, Nat.le_of_ble_eq_true rfl⟩ rfl (Nat.le_of_ble_eq_true rfl) rfl dX11_then_21 ?_
      refine j_if_ne (tgt := 33) X dX11_then_24 (by decide) (fun c_24 => ?_) (fun c_24 => ?_)
      · replace hf := (if_neg c_24).symm.trans hf
        refine j_aload_n X dX11_then_33 rfl rfl ?_
        refine j_iload_n X dX11_then_34 rfl rfl ?_
        obtain ⟨q6, g_q6, hf⟩ := ob_t hf
        refine j_callV X [0, 1, 2, 3, 4, 5, 6, 7, 8, 9, 10, 11, 12, 13, 14, 15, 16, 17, 18, 19, 20, 21, 22, 23, 24, 25, 26, 27, 28, 29, 30, 31, 32, 33, 34, 35, 36, 37, 38, 39, 40, 41, 42, 43, 44, 45, 46, 47, 48, 49, 50, 51, 52, 53, 54, 55, 56, 57, 58, 59, 60, 61, 62, 63, 64, 65, 66, 67, 68, 69, 70, 71, 72, 73, 74, 75, 76, 77, 78, 79, 80, 81, 82, 83, 84] 0 (c_X11_lookAhead E h g g_q6) (cut_wX_wX_c ..) rfl rfl (ws' := (wX E h g q6)) (cut_wX_wX_w ..) (wX_0 ..) rfl k_634 k_636 k_17 k_68 k_637 (⟨rfl, rfl⟩) hdV_X11_lookAhead ⟨Nat.le_of_ble_eq_true rfl, Nat.le_of_ble_eq_true rfl⟩ rfl (Nat.le_of_ble_eq_true rfl) rfl dX11_then_35 ?_
        refine j_aload_n X dX11_then_38 rfl rfl ?_
        refine j_get (C := RX11) (T := TX11) (N := 10) X iX11 0 (wX_0 ..) rfl 2 (by decide) k_312 rfl rfl dX11_then_39 ?_
        refine j_iload_n X dX11_then_42 rfl rfl ?_
        refine j_iload_n X dX11_then_43 rfl rfl ?_
        obtain ⟨q7, g_q7, hf⟩ := ob_t hf
        obtain ⟨μ8, e_μ8, hf⟩ := bd_e hf
        refine j_callV X [35, 36, 37, 38, 39, 40, 7, 8, 9, 10, 11, 12, 13, 14, 66, 67, 68, 69, 70, 71, 72, 73] 0 (c_X4_is E (fun j => h (List.getD [35, 36, 37, 38, 39, 40, 7, 8, 9, 10, 11, 12, 13, 14, 66, 67, 68, 69, 70, 71, 72, 73] j 0)) (fun j => g (List.getD [0, 1] j 0)) g_q7) (cut_wX_wR_35_36_37_c ..) rfl rfl (ws' := (wX E h g μ8)) (by rw [e_μ8]; exact cut_wX_wR_35_36_37_w ..) (wR_0 ..) rfl k_438 k_439 k_440 k_78 k_441 (⟨rfl, rfl⟩) hdV_X4_is ⟨Nat.le_of_ble_eq_true rfl, Nat.le_of_ble_eq_true rfl⟩ rfl (Nat.le_of_ble_eq_true rfl) rfl dX11_then_44 ?_
        obtain rfl := Option.some.inj hf
        exact j_iret X hr hlk rfl dX11_then_47 hQ
      · replace hf := (if_pos c_24).symm.trans hf
        refine j_aload_n X dX11_then_27 rfl rfl ?_
        refine j_iconst (v := (1 : Int32)) X dX11_then_28 (by decide) ?_
        obtain ⟨q9, g_q9, hf⟩ := ob_t hf
        refine j_callV X [0, 1, 2, 3, 4, 5, 6, 7, 8, 9, 10, 11, 12, 13, 14, 15, 16, 17, 18, 19, 20, 21, 22, 23, 24, 25, 26, 27, 28, 29, 30, 31, 32, 33, 34, 35, 36, 37, 38, 39, 40, 41, 42, 43, 44, 45, 46, 47, 48, 49, 50, 51, 52, 53, 54, 55, 56, 57, 58, 59, 60, 61, 62, 63, 64, 65, 66, 67, 68, 69, 70, 71, 72, 73, 74, 75, 76, 77, 78, 79, 80, 81, 82, 83, 84] 0 (c_X11_fails E h g g_q9) (cut_wX_wX_c ..) rfl rfl (ws' := (wX E h g q9.1)) (cut_wX_wX_w ..) (wX_0 ..) rfl k_351 k_353 k_0 k_68 k_354 (⟨rfl, rfl⟩) hdV_X11_fails ⟨Nat.le_of_ble_eq_true rfl, Nat.le_of_ble_eq_true rfl⟩ rfl (Nat.le_of_ble_eq_true rfl) rfl dX11_then_29 ?_
        obtain rfl := Option.some.inj hf
        exact j_iret X hr hlk rfl dX11_then_32 hQ
def f_X11_standing (μ : Mem) (x1 : Int32) : Option (Mem × Int32) := (f_X11_within x1 (0 : Int32) (200 : Int32)).bind fun q1 => ((if q1 = 0 then (f_X11_fails μ (1 : Int32)).bind fun q5 => (some (q5.1, q5.2)) else (f_X11_lookAhead μ x1).bind fun q2 => ((f_X4_howMany (sub [35, 36, 37, 38, 39, 40, 7, 8, 9, 10, 11, 12, 13, 14, 66, 67, 68, 69, 70, 71, 72, 73] q2)).bind fun q3 => (bd (put [35, 36, 37, 38, 39, 40, 7, 8, 9, 10, 11, 12, 13, 14, 66, 67, 68, 69, 70, 71, 72, 73] q2 q3.1) fun μ4 => (some (μ4, q3.2))))))
set_option maxHeartbeats 4000000 in
set_option maxRecDepth 20000 in
theorem c_X11_standing (E : Ev) (h : Nat → Nat) (g : Nat → Option Nat) {μ : Mem} {x1 : Int32} {r : (Mem × Int32)} (hf : f_X11_standing μ x1 = some r) : Ct E yX11_standing cX11_standing 2 (some .int) (rmOf 7 158) (wX E h g μ) (wX E h g r.1) [.ref (h 0), .int x1] (some (.int r.2)) := by
  refine ct_start RX11 0 (by decide) rfl (Nat.le_of_ble_eq_true rfl) ?_
  intro p l e s m args below meth c A Q X hr hlk hQ
  rw [f_X11_standing] at hf
  refine j_iload_n X dX11_standing_0 rfl rfl ?_
  refine j_iconst (v := (0 : Int32)) X dX11_standing_1 (by decide) ?_
  refine j_sipush (v := (200 : Int32)) X dX11_standing_2 (by decide) ?_
  obtain ⟨q1, g_q1, hf⟩ := ob_t hf
  refine j_callS X [] (c_X11_within E g_q1) rfl rfl rfl (ws' := (wX E h g μ)) rfl k_348 k_349 k_68 k_350 (⟨rfl, rfl⟩) hdS_X11_within ⟨Nat.le_of_ble_eq_true rfl, Nat.le_of_ble_eq_true rfl⟩ rfl (Nat.le_of_ble_eq_true rfl) rfl dX11_standing_5 ?_
  refine j_if_ne (tgt := 17) X dX11_standing_8 (by decide) (fun c_8 => ?_) (fun c_8 => ?_)
  · replace hf := (if_neg c_8).symm.trans hf
    refine j_aload_n X dX11_standing_17 rfl rfl ?_
    refine j_iload_n X dX11_standing_18 rfl rfl ?_
    obtain ⟨q2, g_q2, hf⟩ := ob_t hf
    refine j_callV X [0, 1, 2, 3, 4, 5, 6, 7, 8, 9, 10, 11, 12, 13, 14, 15, 16, 17, 18, 19, 20, 21, 22, 23, 24, 25, 26, 27, 28, 29, 30, 31, 32, 33, 34, 35, 36, 37, 38, 39, 40, 41, 42, 43, 44, 45, 46, 47, 48, 49, 50, 51, 52, 53, 54, 55, 56, 57, 58, 59, 60, 61, 62, 63, 64, 65, 66, 67, 68, 69, 70, 71, 72, 73, 74, 75, 76, 77, 78, 79, 80, 81, 82, 83, 84] 0 (c_X11_lookAhead E h g g_q2) (cut_wX_wX_c ..) rfl rfl (ws' := (wX E h g q2)) (cut_wX_wX_w ..) (wX_0 ..) rfl k_634 k_636 k_17 k_68 k_637 (⟨rfl, rfl⟩) hdV_X11_lookAhead ⟨Nat.le_of_ble_eq_true rfl, Nat.le_of_ble_eq_true rfl⟩ rfl (Nat.le_of_ble_eq_true rfl) rfl dX11_standing_19 ?_
    refine j_aload_n X dX11_standing_22 rfl rfl ?_
    refine j_get (C := RX11) (T := TX11) (N := 10) X iX11 0 (wX_0 ..) rfl 2 (by decide) k_312 rfl rfl dX11_standing_23 ?_
    obtain ⟨q3, g_q3, hf⟩ := ob_t hf
    obtain ⟨μ4, e_μ4, hf⟩ := bd_e hf
    refine j_callV X [35, 36, 37, 38, 39, 40, 7, 8, 9, 10, 11, 12, 13, 14, 66, 67, 68, 69, 70, 71, 72, 73] 0 (c_X4_howMany E (fun j => h (List.getD [35, 36, 37, 38, 39, 40, 7, 8, 9, 10, 11, 12, 13, 14, 66, 67, 68, 69, 70, 71, 72, 73] j 0)) (fun j => g (List.getD [0, 1] j 0)) g_q3) (cut_wX_wR_35_36_37_c ..) rfl rfl (ws' := (wX E h g μ4)) (by rw [e_μ4]; exact cut_wX_wR_35_36_37_w ..) (wR_0 ..) rfl k_649 k_650 k_651 k_78 k_652 (⟨rfl, rfl⟩) hdV_X4_howMany ⟨Nat.le_of_ble_eq_true rfl, Nat.le_of_ble_eq_true rfl⟩ rfl (Nat.le_of_ble_eq_true rfl) rfl dX11_standing_26 ?_
    obtain rfl := Option.some.inj hf
    exact j_iret X hr hlk rfl dX11_standing_29 hQ
  · replace hf := (if_pos c_8).symm.trans hf
    refine j_aload_n X dX11_standing_11 rfl rfl ?_
    refine j_iconst (v := (1 : Int32)) X dX11_standing_12 (by decide) ?_
    obtain ⟨q5, g_q5, hf⟩ := ob_t hf
    refine j_callV X [0, 1, 2, 3, 4, 5, 6, 7, 8, 9, 10, 11, 12, 13, 14, 15, 16, 17, 18, 19, 20, 21, 22, 23, 24, 25, 26, 27, 28, 29, 30, 31, 32, 33, 34, 35, 36, 37, 38, 39, 40, 41, 42, 43, 44, 45, 46, 47, 48, 49, 50, 51, 52, 53, 54, 55, 56, 57, 58, 59, 60, 61, 62, 63, 64, 65, 66, 67, 68, 69, 70, 71, 72, 73, 74, 75, 76, 77, 78, 79, 80, 81, 82, 83, 84] 0 (c_X11_fails E h g g_q5) (cut_wX_wX_c ..) rfl rfl (ws' := (wX E h g q5.1)) (cut_wX_wX_w ..) (wX_0 ..) rfl k_351 k_353 k_0 k_68 k_354 (⟨rfl, rfl⟩) hdV_X11_fails ⟨Nat.le_of_ble_eq_true rfl, Nat.le_of_ble_eq_true rfl⟩ rfl (Nat.le_of_ble_eq_true rfl) rfl dX11_standing_13 ?_
    obtain rfl := Option.some.inj hf
    exact j_iret X hr hlk rfl dX11_standing_16 hQ
def f_X11_lasts (μ : Mem) (x1 : Int32) : Option (Mem × Int32) := (f_X11_isStander x1).bind fun q1 => ((if q1 = 0 then (f_X11_fails μ (1 : Int32)).bind fun q10 => (some (q10.1, q10.2)) else (f_X4_stands (sub [23, 24, 25, 26, 27, 28, 7, 8, 9, 10, 11, 12, 13, 14, 66, 67, 68, 69, 70, 71, 72, 73] μ) x1).bind fun q2 => (bd (put [23, 24, 25, 26, 27, 28, 7, 8, 9, 10, 11, 12, 13, 14, 66, 67, 68, 69, 70, 71, 72, 73] μ q2.1) fun μ3 => ((if q2.2 = 0 then (f_X11_fails μ3 (3 : Int32)).bind fun q9 => (some (q9.1, q9.2)) else (f_X4_copyFrom (sub [35, 36, 37, 38, 39, 40, 23, 24, 25, 26, 27, 28] μ3)).bind fun q4 => (bd (put [35, 36, 37, 38, 39, 40, 23, 24, 25, 26, 27, 28] μ3 q4) fun μ5 => ((f_X4_lastsFor (sub [35, 36, 37, 38, 39, 40, 7, 8, 9, 10, 11, 12, 13, 14, 66, 67, 68, 69, 70, 71, 72, 73] μ5) x1).bind fun q6 => (bd (put [35, 36, 37, 38, 39, 40, 7, 8, 9, 10, 11, 12, 13, 14, 66, 67, 68, 69, 70, 71, 72, 73] μ5 q6.1) fun μ7 => ((if q6.2 = (201 : Int32) then (f_X11_fails μ7 (2 : Int32)).bind fun q8 => (some (q8.1, q8.2)) else some (μ7, q6.2)))))))))))
set_option maxHeartbeats 4000000 in
set_option maxRecDepth 20000 in
theorem c_X11_lasts (E : Ev) (h : Nat → Nat) (g : Nat → Option Nat) {μ : Mem} {x1 : Int32} {r : (Mem × Int32)} (hf : f_X11_lasts μ x1 = some r) : Ct E yX11_lasts cX11_lasts 3 (some .int) (rmOf 6 136) (wX E h g μ) (wX E h g r.1) [.ref (h 0), .int x1] (some (.int r.2)) := by
  refine ct_start RX11 1 (by decide) rfl (Nat.le_of_ble_eq_true rfl) ?_
  intro p l e s m args below meth c A Q X hr hlk hQ
  rw [f_X11_lasts] at hf
  refine j_iload_n X dX11_lasts_0 rfl rfl ?_
  obtain ⟨q1, g_q1, hf⟩ := ob_t hf
  refine j_callS X [] (c_X11_isStander E g_q1) rfl rfl rfl (ws' := (wX E h g μ)) rfl k_345 k_346 k_68 k_347 (⟨rfl, rfl⟩) hdS_X11_isStander ⟨Nat.le_of_ble_eq_true rfl, Nat.le_of_ble_eq_true rfl⟩ rfl (Nat.le_of_ble_eq_true rfl) rfl dX11_lasts_1 ?_
  refine j_if_ne (tgt := 13) X dX11_lasts_4 (by decide) (fun c_4 => ?_) (fun c_4 => ?_)
  · replace hf := (if_neg c_4).symm.trans hf
    refine j_aload_n X dX11_lasts_13 rfl rfl ?_
    refine j_get (C := RX11) (T := TX11) (N := 10) X iX11 0 (wX_0 ..) rfl 0 (by decide) k_310 rfl rfl dX11_lasts_14 ?_
    refine j_get (C := RX5) (T := TX5) (N := 8) X iX5 1 (wX_1 ..) rfl 2 (by decide) k_239 rfl rfl dX11_lasts_17 ?_
    refine j_iload_n X dX11_lasts_20 rfl rfl ?_
    obtain ⟨q2, g_q2, hf⟩ := ob_t hf
    obtain ⟨μ3, e_μ3, hf⟩ := bd_e hf
    refine j_callV X [23, 24, 25, 26, 27, 28, 7, 8, 9, 10, 11, 12, 13, 14, 66, 67, 68, 69, 70, 71, 72, 73] 0 (c_X4_stands E (fun j => h (List.getD [23, 24, 25, 26, 27, 28, 7, 8, 9, 10, 11, 12, 13, 14, 66, 67, 68, 69, 70, 71, 72, 73] j 0)) (fun j => g (List.getD [0, 1] j 0)) g_q2) (cut_wX_wR_23_24_25_c ..) rfl rfl (ws' := (wX E h g μ3)) (by rw [e_μ3]; exact cut_wX_wR_23_24_25_w ..) (wR_0 ..) rfl k_454 k_455 k_456 k_78 k_457 (⟨rfl, rfl⟩) hdV_X4_stands ⟨Nat.le_of_ble_eq_true rfl, Nat.le_of_ble_eq_true rfl⟩ rfl (Nat.le_of_ble_eq_true rfl) rfl dX11_lasts_21 ?_
    refine j_if_ne (tgt := 33) X dX11_lasts_24 (by decide) (fun c_24 => ?_) (fun c_24 => ?_)
    · replace hf := (if_neg c_24).symm.trans hf
      refine j_aload_n X dX11_lasts_33 rfl rfl ?_
      refine j_get (C := RX11) (T := TX11) (N := 10) X iX11 0 (wX_0 ..) rfl 2 (by decide) k_312 rfl rfl dX11_lasts_34 ?_
      refine j_aload_n X dX11_lasts_37 rfl rfl ?_
      refine j_get (C := RX11) (T := TX11) (N := 10) X iX11 0 (wX_0 ..) rfl 0 (by decide) k_310 rfl rfl dX11_lasts_38 ?_
      refine j_get (C := RX5) (T := TX5) (N := 8) X iX5 1 (wX_1 ..) rfl 2 (by decide) k_239 rfl rfl dX11_lasts_41 ?_
      obtain ⟨q4, g_q4, hf⟩ := ob_t hf
      obtain ⟨μ5, e_μ5, hf⟩ := bd_e hf
      refine j_callV X [35, 36, 37, 38, 39, 40, 23, 24, 25, 26, 27, 28] 0 (c_X4_copyFrom E (fun j => h (List.getD [35, 36, 37, 38, 39, 40, 23, 24, 25, 26, 27, 28, 7, 11, 66, 7, 11, 66] j 0)) (fun j => g (List.getD [] j 0)) g_q4) (cut_wX_wRC_35_36_37_c ..) rfl rfl (ws' := (wX E h g μ5)) (by rw [e_μ5]; exact cut_wX_wRC_35_36_37_w ..) (wRC_0 ..) rfl k_638 k_639 k_640 k_78 k_641 (⟨rfl, rfl⟩) hdV_X4_copyFrom ⟨Nat.le_of_ble_eq_true rfl, Nat.le_of_ble_eq_true rfl⟩ rfl (Nat.le_of_ble_eq_true rfl) rfl dX11_lasts_44 ?_
      refine j_aload_n X dX11_lasts_47 rfl rfl ?_
      refine j_get (C := RX11) (T := TX11) (N := 10) X iX11 0 (wX_0 ..) rfl 2 (by decide) k_312 rfl rfl dX11_lasts_48 ?_
      refine j_iload_n X dX11_lasts_51 rfl rfl ?_
      obtain ⟨q6, g_q6, hf⟩ := ob_t hf
      obtain ⟨μ7, e_μ7, hf⟩ := bd_e hf
      refine j_callV X [35, 36, 37, 38, 39, 40, 7, 8, 9, 10, 11, 12, 13, 14, 66, 67, 68, 69, 70, 71, 72, 73] 0 (c_X4_lastsFor E (fun j => h (List.getD [35, 36, 37, 38, 39, 40, 7, 8, 9, 10, 11, 12, 13, 14, 66, 67, 68, 69, 70, 71, 72, 73] j 0)) (fun j => g (List.getD [0, 1] j 0)) g_q6) (cut_wX_wR_35_36_37_c ..) rfl rfl (ws' := (wX E h g μ7)) (by rw [e_μ7]; exact cut_wX_wR_35_36_37_w ..) (wR_0 ..) rfl k_667 k_668 k_669 k_78 k_670 (⟨rfl, rfl⟩) hdV_X4_lastsFor ⟨Nat.le_of_ble_eq_true rfl, Nat.le_of_ble_eq_true rfl⟩ rfl (Nat.le_of_ble_eq_true rfl) rfl dX11_lasts_52 ?_
      refine j_istore_n2 X dX11_lasts_55 rfl (by decide) rfl ?_
      refine j_iload_n X dX11_lasts_56 rfl rfl ?_
      refine j_sipush (v := (201 : Int32)) X dX11_lasts_57 (by decide) ?_
      refine j_icmp_ne (tgt := 71) X dX11_lasts_60 (by decide) (fun c_60 => ?_) (fun c_60 => ?_)
      · replace hf := (if_neg c_60).symm.trans hf
        refine j_iload_n X dX11_lasts_71 rfl rfl ?_
        obtain rfl := Option.some.inj hf
        exact j_iret X hr hlk rfl dX11_lasts_72 hQ
      · replace hf := (if_pos c_60).symm.trans hf
        refine j_aload_n X dX11_lasts_63 rfl rfl ?_
        refine j_iconst (v := (2 : Int32)) X dX11_lasts_64 (by decide) ?_
        obtain ⟨q8, g_q8, hf⟩ := ob_t hf
        refine j_callV X [0, 1, 2, 3, 4, 5, 6, 7, 8, 9, 10, 11, 12, 13, 14, 15, 16, 17, 18, 19, 20, 21, 22, 23, 24, 25, 26, 27, 28, 29, 30, 31, 32, 33, 34, 35, 36, 37, 38, 39, 40, 41, 42, 43, 44, 45, 46, 47, 48, 49, 50, 51, 52, 53, 54, 55, 56, 57, 58, 59, 60, 61, 62, 63, 64, 65, 66, 67, 68, 69, 70, 71, 72, 73, 74, 75, 76, 77, 78, 79, 80, 81, 82, 83, 84] 0 (c_X11_fails E h g g_q8) (cut_wX_wX_c ..) rfl rfl (ws' := (wX E h g q8.1)) (cut_wX_wX_w ..) (wX_0 ..) rfl k_351 k_353 k_0 k_68 k_354 (⟨rfl, rfl⟩) hdV_X11_fails ⟨Nat.le_of_ble_eq_true rfl, Nat.le_of_ble_eq_true rfl⟩ rfl (Nat.le_of_ble_eq_true rfl) rfl dX11_lasts_65 ?_
        refine j_goto (tgt := 72) X dX11_lasts_68 (by decide) ?_
        obtain rfl := Option.some.inj hf
        exact j_iret X hr hlk rfl dX11_lasts_72 hQ
    · replace hf := (if_pos c_24).symm.trans hf
      refine j_aload_n X dX11_lasts_27 rfl rfl ?_
      refine j_iconst (v := (3 : Int32)) X dX11_lasts_28 (by decide) ?_
      obtain ⟨q9, g_q9, hf⟩ := ob_t hf
      refine j_callV X [0, 1, 2, 3, 4, 5, 6, 7, 8, 9, 10, 11, 12, 13, 14, 15, 16, 17, 18, 19, 20, 21, 22, 23, 24, 25, 26, 27, 28, 29, 30, 31, 32, 33, 34, 35, 36, 37, 38, 39, 40, 41, 42, 43, 44, 45, 46, 47, 48, 49, 50, 51, 52, 53, 54, 55, 56, 57, 58, 59, 60, 61, 62, 63, 64, 65, 66, 67, 68, 69, 70, 71, 72, 73, 74, 75, 76, 77, 78, 79, 80, 81, 82, 83, 84] 0 (c_X11_fails E h g g_q9) (cut_wX_wX_c ..) rfl rfl (ws' := (wX E h g q9.1)) (cut_wX_wX_w ..) (wX_0 ..) rfl k_351 k_353 k_0 k_68 k_354 (⟨rfl, rfl⟩) hdV_X11_fails ⟨Nat.le_of_ble_eq_true rfl, Nat.le_of_ble_eq_true rfl⟩ rfl (Nat.le_of_ble_eq_true rfl) rfl dX11_lasts_29 ?_
      obtain rfl := Option.some.inj hf
      exact j_iret X hr hlk rfl dX11_lasts_32 hQ
  · replace hf := (if_pos c_4).symm.trans hf
    refine j_aload_n X dX11_lasts_7 rfl rfl ?_
    refine j_iconst (v := (1 : Int32)) X dX11_lasts_8 (by decide) ?_
    obtain ⟨q10, g_q10, hf⟩ := ob_t hf
    refine j_callV X [0, 1, 2, 3, 4, 5, 6, 7, 8, 9, 10, 11, 12, 13, 14, 15, 16, 17, 18, 19, 20, 21, 22, 23, 24, 25, 26, 27, 28, 29, 30, 31, 32, 33, 34, 35, 36, 37, 38, 39, 40, 41, 42, 43, 44, 45, 46, 47, 48, 49, 50, 51, 52, 53, 54, 55, 56, 57, 58, 59, 60, 61, 62, 63, 64, 65, 66, 67, 68, 69, 70, 71, 72, 73, 74, 75, 76, 77, 78, 79, 80, 81, 82, 83, 84] 0 (c_X11_fails E h g g_q10) (cut_wX_wX_c ..) rfl rfl (ws' := (wX E h g q10.1)) (cut_wX_wX_w ..) (wX_0 ..) rfl k_351 k_353 k_0 k_68 k_354 (⟨rfl, rfl⟩) hdV_X11_fails ⟨Nat.le_of_ble_eq_true rfl, Nat.le_of_ble_eq_true rfl⟩ rfl (Nat.le_of_ble_eq_true rfl) rfl dX11_lasts_9 ?_
    obtain rfl := Option.some.inj hf
    exact j_iret X hr hlk rfl dX11_lasts_12 hQ
def f_X11_lastOne_L73 (K13 : Mem → Int32 → Int32 → Int32 → Option (Mem × Int32)) (μ : Mem) (x1 : Int32) (x2 : Int32) (x3 : Int32) (t0 : Int32) : Option (Mem × Int32) := (if t0 ≤ x2 then K13 μ x1 x2 (x3 + (1 : Int32)) else K13 μ x3 t0 (x3 + (1 : Int32)))
def f_X11_lastOne_L13 : Nat → Mem → Int32 → Int32 → Int32 → Option (Mem × Int32)
  | 0, _, _, _, _ => none
  | n + 1, μ, x1, x2, x3 => (if (9 : Int32) ≤ x3 then (if 0 ≤ x1 then some (μ, x1) else (f_X11_fails μ (2 : Int32)).bind fun q2 => (some (q2.1, q2.2))) else (f_X4_stands (sub [23, 24, 25, 26, 27, 28, 7, 8, 9, 10, 11, 12, 13, 14, 66, 67, 68, 69, 70, 71, 72, 73] μ) x3).bind fun q3 => (bd (put [23, 24, 25, 26, 27, 28, 7, 8, 9, 10, 11, 12, 13, 14, 66, 67, 68, 69, 70, 71, 72, 73] μ q3.1) fun μ4 => ((if q3.2 = 0 then (f_X11_lastOne_L13 n) μ4 x1 x2 (x3 + (1 : Int32)) else (f_X4_stands (sub [35, 36, 37, 38, 39, 40, 7, 8, 9, 10, 11, 12, 13, 14, 66, 67, 68, 69, 70, 71, 72, 73] μ4) x3).bind fun q5 => (bd (put [35, 36, 37, 38, 39, 40, 7, 8, 9, 10, 11, 12, 13, 14, 66, 67, 68, 69, 70, 71, 72, 73] μ4 q5.1) fun μ6 => ((if q5.2 = 0 then (if inb x3 9 = true then f_X11_lastOne_L73 (f_X11_lastOne_L13 n) μ6 x1 x2 x3 ((μ6 40 x3.toNatClampNeg) - (μ6 23 6)) else none) else f_X11_lastOne_L73 (f_X11_lastOne_L13 n) μ6 x1 x2 x3 (201 : Int32))))))))
def f_X11_lastOne (μ : Mem) : Option (Mem × Int32) := (f_X11_lookAhead μ (200 : Int32)).bind fun q1 => (f_X11_lastOne_L13 fuel0 q1 (-1 : Int32) (0 : Int32) (0 : Int32))
set_option maxHeartbeats 4000000 in
set_option maxRecDepth 20000 in
theorem c_X11_lastOne (E : Ev) (h : Nat → Nat) (g : Nat → Option Nat) {μ : Mem} {r : (Mem × Int32)} (hf : f_X11_lastOne μ = some r) : Ct E yX11_lastOne cX11_lastOne 5 (some .int) (rmOf 7 158) (wX E h g μ) (wX E h g r.1) [.ref (h 0)] (some (.int r.2)) := by
  refine ct_start RX11 4 (by decide) rfl (Nat.le_of_ble_eq_true rfl) ?_
  intro p l e s m args below meth c A Q X hr hlk hQ
  have lab73 : ∀ (K13 : Mem → Int32 → Int32 → Int32 → Option (Mem × Int32)) (hK13 : ∀ (μ : Mem) (x1 : Int32) (x2 : Int32) (x3 : Int32), K13 μ x1 x2 x3 = some r → J p l e (rmOf 7 158) s m args below meth c E A 5 Q (wX E h g μ) [some (.ref (h 0)), some (.int x1), some (.int x2), some (.int x3), none] 13 []) (μ : Mem) (x1 : Int32) (x2 : Int32) (x3 : Int32) (t0 : Int32), f_X11_lastOne_L73 K13 μ x1 x2 x3 t0 = some r → J p l e (rmOf 7 158) s m args below meth c E A 5 Q (wX E h g μ) [some (.ref (h 0)), some (.int x1), some (.int x2), some (.int x3), none] 73 [.int t0] := by
    intro K13 hK13 μ x1 x2 x3 t0 hf
    rw [f_X11_lastOne_L73] at hf
    refine j_istore4 X dX11_lastOne_73 (by decide) rfl ?_
    refine j_iload X dX11_lastOne_75 rfl ?_
    refine j_iload_n X dX11_lastOne_77 rfl rfl ?_
    refine j_icmp_le (tgt := 86) X dX11_lastOne_78 (by decide) (fun c_78 => ?_) (fun c_78 => ?_)
    · replace hf := (if_pos c_78).symm.trans hf
      refine j_iinc3 (k := (1 : Int32)) X dX11_lastOne_86 (by decide) (by decide) rfl ?_
      refine j_goto (tgt := 13) X dX11_lastOne_89 (by decide) ?_
      refine j_keep [true, true, true, true, false] rfl ?_
      exact hK13 _ _ _ _ hf
    · replace hf := (if_neg c_78).symm.trans hf
      refine j_iload X dX11_lastOne_81 rfl ?_
      refine j_istore_n2 X dX11_lastOne_83 rfl (by decide) rfl ?_
      refine j_iload_n X dX11_lastOne_84 rfl rfl ?_
      refine j_istore_n1 X dX11_lastOne_85 rfl (by decide) rfl ?_
      refine j_iinc3 (k := (1 : Int32)) X dX11_lastOne_86 (by decide) (by decide) rfl ?_
      refine j_goto (tgt := 13) X dX11_lastOne_89 (by decide) ?_
      refine j_keep [true, true, true, true, false] rfl ?_
      exact hK13 _ _ _ _ hf
  have lab13 : ∀ (n : Nat) (μ : Mem) (x1 : Int32) (x2 : Int32) (x3 : Int32), f_X11_lastOne_L13 n μ x1 x2 x3 = some r → J p l e (rmOf 7 158) s m args below meth c E A 5 Q (wX E h g μ) [some (.ref (h 0)), some (.int x1), some (.int x2), some (.int x3), none] 13 [] := by
    intro n
    induction n with
    | zero => intro μ x1 x2 x3 hf; cases (show none = some r from hf)
    | succ n ih =>
      intro μ x1 x2 x3 hf
      rw [f_X11_lastOne_L13] at hf
      refine j_iload_n X dX11_lastOne_13 rfl rfl ?_
      refine j_bipush (v := (9 : Int32)) X dX11_lastOne_14 (by decide) ?_
      refine j_icmp_ge (tgt := 92) X dX11_lastOne_16 (by decide) (fun c_16 => ?_) (fun c_16 => ?_)
      · replace hf := (if_pos c_16).symm.trans hf
        refine j_iload_n X dX11_lastOne_92 rfl rfl ?_
        refine j_if_ge (tgt := 104) X dX11_lastOne_93 (by decide) (fun c_93 => ?_) (fun c_93 => ?_)
        · replace hf := (if_pos c_93).symm.trans hf
          refine j_iload_n X dX11_lastOne_104 rfl rfl ?_
          obtain rfl := Option.some.inj hf
          exact j_iret X hr hlk rfl dX11_lastOne_105 hQ
        · replace hf := (if_neg c_93).symm.trans hf
          refine j_aload_n X dX11_lastOne_96 rfl rfl ?_
          refine j_iconst (v := (2 : Int32)) X dX11_lastOne_97 (by decide) ?_
          obtain ⟨q2, g_q2, hf⟩ := ob_t hf
          refine j_callV X [0, 1, 2, 3, 4, 5, 6, 7, 8, 9, 10, 11, 12, 13, 14, 15, 16, 17, 18, 19, 20, 21, 22, 23, 24, 25, 26, 27, 28, 29, 30, 31, 32, 33, 34, 35, 36, 37, 38, 39, 40, 41, 42, 43, 44, 45, 46, 47, 48, 49, 50, 51, 52, 53, 54, 55, 56, 57, 58, 59, 60, 61, 62, 63, 64, 65, 66, 67, 68, 69, 70, 71, 72, 73, 74, 75, 76, 77, 78, 79, 80, 81, 82, 83, 84] 0 (c_X11_fails E h g g_q2) (cut_wX_wX_c ..) rfl rfl (ws' := (wX E h g q2.1)) (cut_wX_wX_w ..) (wX_0 ..) rfl k_351 k_353 k_0 k_68 k_354 (⟨rfl, rfl⟩) hdV_X11_fails ⟨Nat.le_of_ble_eq_true rfl, Nat.le_of_ble_eq_true rfl⟩ rfl (Nat.le_of_ble_eq_true rfl) rfl dX11_lastOne_98 ?_
          refine j_goto (tgt := 105) X dX11_lastOne_101 (by decide) ?_
          obtain rfl := Option.some.inj hf
          exact j_iret X hr hlk rfl dX11_lastOne_105 hQ
      · replace hf := (if_neg c_16).symm.trans hf
        refine j_aload_n X dX11_lastOne_19 rfl rfl ?_
        refine j_get (C := RX11) (T := TX11) (N := 10) X iX11 0 (wX_0 ..) rfl 0 (by decide) k_310 rfl rfl dX11_lastOne_20 ?_
        refine j_get (C := RX5) (T := TX5) (N := 8) X iX5 1 (wX_1 ..) rfl 2 (by decide) k_239 rfl rfl dX11_lastOne_23 ?_
        refine j_iload_n X dX11_lastOne_26 rfl rfl ?_
        obtain ⟨q3, g_q3, hf⟩ := ob_t hf
        obtain ⟨μ4, e_μ4, hf⟩ := bd_e hf
        refine j_callV X [23, 24, 25, 26, 27, 28, 7, 8, 9, 10, 11, 12, 13, 14, 66, 67, 68, 69, 70, 71, 72, 73] 0 (c_X4_stands E (fun j => h (List.getD [23, 24, 25, 26, 27, 28, 7, 8, 9, 10, 11, 12, 13, 14, 66, 67, 68, 69, 70, 71, 72, 73] j 0)) (fun j => g (List.getD [0, 1] j 0)) g_q3) (cut_wX_wR_23_24_25_c ..) rfl rfl (ws' := (wX E h g μ4)) (by rw [e_μ4]; exact cut_wX_wR_23_24_25_w ..) (wR_0 ..) rfl k_454 k_455 k_456 k_78 k_457 (⟨rfl, rfl⟩) hdV_X4_stands ⟨Nat.le_of_ble_eq_true rfl, Nat.le_of_ble_eq_true rfl⟩ rfl (Nat.le_of_ble_eq_true rfl) rfl dX11_lastOne_27 ?_
        refine j_if_ne (tgt := 36) X dX11_lastOne_30 (by decide) (fun c_30 => ?_) (fun c_30 => ?_)
        · replace hf := (if_neg c_30).symm.trans hf
          refine j_aload_n X dX11_lastOne_36 rfl rfl ?_
          refine j_get (C := RX11) (T := TX11) (N := 10) X iX11 0 (wX_0 ..) rfl 2 (by decide) k_312 rfl rfl dX11_lastOne_37 ?_
          refine j_iload_n X dX11_lastOne_40 rfl rfl ?_
          obtain ⟨q5, g_q5, hf⟩ := ob_t hf
          obtain ⟨μ6, e_μ6, hf⟩ := bd_e hf
          refine j_callV X [35, 36, 37, 38, 39, 40, 7, 8, 9, 10, 11, 12, 13, 14, 66, 67, 68, 69, 70, 71, 72, 73] 0 (c_X4_stands E (fun j => h (List.getD [35, 36, 37, 38, 39, 40, 7, 8, 9, 10, 11, 12, 13, 14, 66, 67, 68, 69, 70, 71, 72, 73] j 0)) (fun j => g (List.getD [0, 1] j 0)) g_q5) (cut_wX_wR_35_36_37_c ..) rfl rfl (ws' := (wX E h g μ6)) (by rw [e_μ6]; exact cut_wX_wR_35_36_37_w ..) (wR_0 ..) rfl k_454 k_455 k_456 k_78 k_457 (⟨rfl, rfl⟩) hdV_X4_stands ⟨Nat.le_of_ble_eq_true rfl, Nat.le_of_ble_eq_true rfl⟩ rfl (Nat.le_of_ble_eq_true rfl) rfl dX11_lastOne_41 ?_
          refine j_if_eq (tgt := 53) X dX11_lastOne_44 (by decide) (fun c_44 => ?_) (fun c_44 => ?_)
          · replace hf := (if_pos c_44).symm.trans hf
            refine j_aload_n X dX11_lastOne_53 rfl rfl ?_
            refine j_get (C := RX11) (T := TX11) (N := 10) X iX11 0 (wX_0 ..) rfl 2 (by decide) k_312 rfl rfl dX11_lastOne_54 ?_
            refine j_get (C := RX4) (T := TX4) (N := 10) X iX4 35 (wX_35 ..) rfl 4 (by decide) k_202 rfl rfl dX11_lastOne_57 ?_
            refine j_iload_n X dX11_lastOne_60 rfl rfl ?_
            obtain ⟨c7, hf⟩ := oi_in hf
            refine j_iald X 40 (wX_40 ..) c7 dX11_lastOne_61 ?_
            refine j_aload_n X dX11_lastOne_62 rfl rfl ?_
            refine j_get (C := RX11) (T := TX11) (N := 10) X iX11 0 (wX_0 ..) rfl 0 (by decide) k_310 rfl rfl dX11_lastOne_63 ?_
            refine j_get (C := RX5) (T := TX5) (N := 8) X iX5 1 (wX_1 ..) rfl 2 (by decide) k_239 rfl rfl dX11_lastOne_66 ?_
            refine j_get (C := RX4) (T := TX4) (N := 10) X iX4 23 (wX_23 ..) rfl 6 (by decide) k_208 rfl rfl dX11_lastOne_69 ?_
            refine j_isub X dX11_lastOne_72 ?_
            refine j_keep [true, true, true, true, false] rfl ?_
            exact lab73 _ ih _ _ _ _ _ hf
          · replace hf := (if_neg c_44).symm.trans hf
            refine j_sipush (v := (201 : Int32)) X dX11_lastOne_47 (by decide) ?_
            refine j_goto (tgt := 73) X dX11_lastOne_50 (by decide) ?_
            refine j_keep [true, true, true, true, false] rfl ?_
            exact lab73 _ ih _ _ _ _ _ hf
        · replace hf := (if_pos c_30).symm.trans hf
          refine j_goto (tgt := 86) X dX11_lastOne_33 (by decide) ?_
          refine j_iinc3 (k := (1 : Int32)) X dX11_lastOne_86 (by decide) (by decide) rfl ?_
          refine j_goto (tgt := 13) X dX11_lastOne_89 (by decide) ?_
          refine j_keep [true, true, true, true, false] rfl ?_
          exact ih _ _ _ _ hf
  rw [f_X11_lastOne] at hf
  refine j_aload_n X dX11_lastOne_0 rfl rfl ?_
  refine j_sipush (v := (200 : Int32)) X dX11_lastOne_1 (by decide) ?_
  obtain ⟨q1, g_q1, hf⟩ := ob_t hf
  refine j_callV X [0, 1, 2, 3, 4, 5, 6, 7, 8, 9, 10, 11, 12, 13, 14, 15, 16, 17, 18, 19, 20, 21, 22, 23, 24, 25, 26, 27, 28, 29, 30, 31, 32, 33, 34, 35, 36, 37, 38, 39, 40, 41, 42, 43, 44, 45, 46, 47, 48, 49, 50, 51, 52, 53, 54, 55, 56, 57, 58, 59, 60, 61, 62, 63, 64, 65, 66, 67, 68, 69, 70, 71, 72, 73, 74, 75, 76, 77, 78, 79, 80, 81, 82, 83, 84] 0 (c_X11_lookAhead E h g g_q1) (cut_wX_wX_c ..) rfl rfl (ws' := (wX E h g q1)) (cut_wX_wX_w ..) (wX_0 ..) rfl k_634 k_636 k_17 k_68 k_637 (⟨rfl, rfl⟩) hdV_X11_lookAhead ⟨Nat.le_of_ble_eq_true rfl, Nat.le_of_ble_eq_true rfl⟩ rfl (Nat.le_of_ble_eq_true rfl) rfl dX11_lastOne_4 ?_
  refine j_iconst (v := (-1 : Int32)) X dX11_lastOne_7 (by decide) ?_
  refine j_istore_n1 X dX11_lastOne_8 rfl (by decide) rfl ?_
  refine j_iconst (v := (0 : Int32)) X dX11_lastOne_9 (by decide) ?_
  refine j_istore_n2 X dX11_lastOne_10 rfl (by decide) rfl ?_
  refine j_iconst (v := (0 : Int32)) X dX11_lastOne_11 (by decide) ?_
  refine j_istore_n3 X dX11_lastOne_12 rfl (by decide) rfl ?_
  refine j_keep [true, true, true, true, false] rfl ?_
  exact lab13 _ _ _ _ _ hf
theorem cut_wX_wRC_41_42_43_c (E : Ev) (h : Nat → Nat) (g : Nat → Option Nat) (μ : Mem) : ([41, 42, 43, 44, 45, 46, 23, 24, 25, 26, 27, 28] : List Nat).map (fun i => (wX E h g μ)[i]?) = (wRC E (fun j => h (List.getD [41, 42, 43, 44, 45, 46, 23, 24, 25, 26, 27, 28, 7, 11, 66, 7, 11, 66] j 0)) (fun j => g (List.getD ([] : List Nat) j 0)) (sub [41, 42, 43, 44, 45, 46, 23, 24, 25, 26, 27, 28] μ)).map some := rfl
theorem cut_wX_wRC_41_42_43_w (E : Ev) (h : Nat → Nat) (g : Nat → Option Nat) (μ : Mem) (ν : Mem) : putW (wX E h g μ) [41, 42, 43, 44, 45, 46, 23, 24, 25, 26, 27, 28] (wRC E (fun j => h (List.getD [41, 42, 43, 44, 45, 46, 23, 24, 25, 26, 27, 28, 7, 11, 66, 7, 11, 66] j 0)) (fun j => g (List.getD ([] : List Nat) j 0)) ν) = wX E h g (put [41, 42, 43, 44, 45, 46, 23, 24, 25, 26, 27, 28] μ ν) := putW_A (by decide +kernel) rfl rfl
theorem cut_wX_wRC_41_42_43_x44_45_46_47_48_49_50_51_52_7_11_66_7_11_66_c (E : Ev) (h : Nat → Nat) (g : Nat → Option Nat) (μ : Mem) : ([41, 42, 43, 44, 45, 46, 47, 48, 49, 50, 51, 52] : List Nat).map (fun i => (wX E h g μ)[i]?) = (wRC E (fun j => h (List.getD [41, 42, 43, 44, 45, 46, 47, 48, 49, 50, 51, 52, 7, 11, 66, 7, 11, 66] j 0)) (fun j => g (List.getD ([] : List Nat) j 0)) (sub [41, 42, 43, 44, 45, 46, 47, 48, 49, 50, 51, 52] μ)).map some := rfl
theorem cut_wX_wRC_41_42_43_x44_45_46_47_48_49_50_51_52_7_11_66_7_11_66_w (E : Ev) (h : Nat → Nat) (g : Nat → Option Nat) (μ : Mem) (ν : Mem) : putW (wX E h g μ) [41, 42, 43, 44, 45, 46, 47, 48, 49, 50, 51, 52] (wRC E (fun j => h (List.getD [41, 42, 43, 44, 45, 46, 47, 48, 49, 50, 51, 52, 7, 11, 66, 7, 11, 66] j 0)) (fun j => g (List.getD ([] : List Nat) j 0)) ν) = wX E h g (put [41, 42, 43, 44, 45, 46, 47, 48, 49, 50, 51, 52] μ ν) := putW_A (by decide +kernel) rfl rfl
theorem cut_wX_wR_41_42_43_c (E : Ev) (h : Nat → Nat) (g : Nat → Option Nat) (μ : Mem) : ([41, 42, 43, 44, 45, 46, 7, 8, 9, 10, 11, 12, 13, 14, 66, 67, 68, 69, 70, 71, 72, 73] : List Nat).map (fun i => (wX E h g μ)[i]?) = (wR E (fun j => h (List.getD [41, 42, 43, 44, 45, 46, 7, 8, 9, 10, 11, 12, 13, 14, 66, 67, 68, 69, 70, 71, 72, 73] j 0)) (fun j => g (List.getD [0, 1] j 0)) (sub [41, 42, 43, 44, 45, 46, 7, 8, 9, 10, 11, 12, 13, 14, 66, 67, 68, 69, 70, 71, 72, 73] μ)).map some := rfl
theorem cut_wX_wR_41_42_43_w (E : Ev) (h : Nat → Nat) (g : Nat → Option Nat) (μ : Mem) (ν : Mem) : putW (wX E h g μ) [41, 42, 43, 44, 45, 46, 7, 8, 9, 10, 11, 12, 13, 14, 66, 67, 68, 69, 70, 71, 72, 73] (wR E (fun j => h (List.getD [41, 42, 43, 44, 45, 46, 7, 8, 9, 10, 11, 12, 13, 14, 66, 67, 68, 69, 70, 71, 72, 73] j 0)) (fun j => g (List.getD [0, 1] j 0)) ν) = wX E h g (put [41, 42, 43, 44, 45, 46, 7, 8, 9, 10, 11, 12, 13, 14, 66, 67, 68, 69, 70, 71, 72, 73] μ ν) := putW_A (by decide +kernel) rfl rfl
theorem cut_wX_wR_47_48_49_c (E : Ev) (h : Nat → Nat) (g : Nat → Option Nat) (μ : Mem) : ([47, 48, 49, 50, 51, 52, 7, 8, 9, 10, 11, 12, 13, 14, 66, 67, 68, 69, 70, 71, 72, 73] : List Nat).map (fun i => (wX E h g μ)[i]?) = (wR E (fun j => h (List.getD [47, 48, 49, 50, 51, 52, 7, 8, 9, 10, 11, 12, 13, 14, 66, 67, 68, 69, 70, 71, 72, 73] j 0)) (fun j => g (List.getD [0, 1] j 0)) (sub [47, 48, 49, 50, 51, 52, 7, 8, 9, 10, 11, 12, 13, 14, 66, 67, 68, 69, 70, 71, 72, 73] μ)).map some := rfl
theorem cut_wX_wR_47_48_49_w (E : Ev) (h : Nat → Nat) (g : Nat → Option Nat) (μ : Mem) (ν : Mem) : putW (wX E h g μ) [47, 48, 49, 50, 51, 52, 7, 8, 9, 10, 11, 12, 13, 14, 66, 67, 68, 69, 70, 71, 72, 73] (wR E (fun j => h (List.getD [47, 48, 49, 50, 51, 52, 7, 8, 9, 10, 11, 12, 13, 14, 66, 67, 68, 69, 70, 71, 72, 73] j 0)) (fun j => g (List.getD [0, 1] j 0)) ν) = wX E h g (put [47, 48, 49, 50, 51, 52, 7, 8, 9, 10, 11, 12, 13, 14, 66, 67, 68, 69, 70, 71, 72, 73] μ ν) := putW_A (by decide +kernel) rfl rfl
theorem cut_wX_wR_53_54_55_c (E : Ev) (h : Nat → Nat) (g : Nat → Option Nat) (μ : Mem) : ([53, 54, 55, 56, 57, 58, 7, 8, 9, 10, 11, 12, 13, 14, 66, 67, 68, 69, 70, 71, 72, 73] : List Nat).map (fun i => (wX E h g μ)[i]?) = (wR E (fun j => h (List.getD [53, 54, 55, 56, 57, 58, 7, 8, 9, 10, 11, 12, 13, 14, 66, 67, 68, 69, 70, 71, 72, 73] j 0)) (fun j => g (List.getD [0, 1] j 0)) (sub [53, 54, 55, 56, 57, 58, 7, 8, 9, 10, 11, 12, 13, 14, 66, 67, 68, 69, 70, 71, 72, 73] μ)).map some := rfl
theorem cut_wX_wR_53_54_55_w (E : Ev) (h : Nat → Nat) (g : Nat → Option Nat) (μ : Mem) (ν : Mem) : putW (wX E h g μ) [53, 54, 55, 56, 57, 58, 7, 8, 9, 10, 11, 12, 13, 14, 66, 67, 68, 69, 70, 71, 72, 73] (wR E (fun j => h (List.getD [53, 54, 55, 56, 57, 58, 7, 8, 9, 10, 11, 12, 13, 14, 66, 67, 68, 69, 70, 71, 72, 73] j 0)) (fun j => g (List.getD [0, 1] j 0)) ν) = wX E h g (put [53, 54, 55, 56, 57, 58, 7, 8, 9, 10, 11, 12, 13, 14, 66, 67, 68, 69, 70, 71, 72, 73] μ ν) := putW_A (by decide +kernel) rfl rfl
theorem cut_wX_wR_59_60_61_c (E : Ev) (h : Nat → Nat) (g : Nat → Option Nat) (μ : Mem) : ([59, 60, 61, 62, 63, 64, 7, 8, 9, 10, 11, 12, 13, 14, 66, 67, 68, 69, 70, 71, 72, 73] : List Nat).map (fun i => (wX E h g μ)[i]?) = (wR E (fun j => h (List.getD [59, 60, 61, 62, 63, 64, 7, 8, 9, 10, 11, 12, 13, 14, 66, 67, 68, 69, 70, 71, 72, 73] j 0)) (fun j => g (List.getD [0, 1] j 0)) (sub [59, 60, 61, 62, 63, 64, 7, 8, 9, 10, 11, 12, 13, 14, 66, 67, 68, 69, 70, 71, 72, 73] μ)).map some := rfl
theorem cut_wX_wR_59_60_61_w (E : Ev) (h : Nat → Nat) (g : Nat → Option Nat) (μ : Mem) (ν : Mem) : putW (wX E h g μ) [59, 60, 61, 62, 63, 64, 7, 8, 9, 10, 11, 12, 13, 14, 66, 67, 68, 69, 70, 71, 72, 73] (wR E (fun j => h (List.getD [59, 60, 61, 62, 63, 64, 7, 8, 9, 10, 11, 12, 13, 14, 66, 67, 68, 69, 70, 71, 72, 73] j 0)) (fun j => g (List.getD [0, 1] j 0)) ν) = wX E h g (put [59, 60, 61, 62, 63, 64, 7, 8, 9, 10, 11, 12, 13, 14, 66, 67, 68, 69, 70, 71, 72, 73] μ ν) := putW_A (by decide +kernel) rfl rfl
theorem cut_wX_wRC_41_42_43_x44_45_46_53_54_55_56_57_58_7_11_66_7_11_66_c (E : Ev) (h : Nat → Nat) (g : Nat → Option Nat) (μ : Mem) : ([41, 42, 43, 44, 45, 46, 53, 54, 55, 56, 57, 58] : List Nat).map (fun i => (wX E h g μ)[i]?) = (wRC E (fun j => h (List.getD [41, 42, 43, 44, 45, 46, 53, 54, 55, 56, 57, 58, 7, 11, 66, 7, 11, 66] j 0)) (fun j => g (List.getD ([] : List Nat) j 0)) (sub [41, 42, 43, 44, 45, 46, 53, 54, 55, 56, 57, 58] μ)).map some := rfl
theorem cut_wX_wRC_41_42_43_x44_45_46_53_54_55_56_57_58_7_11_66_7_11_66_w (E : Ev) (h : Nat → Nat) (g : Nat → Option Nat) (μ : Mem) (ν : Mem) : putW (wX E h g μ) [41, 42, 43, 44, 45, 46, 53, 54, 55, 56, 57, 58] (wRC E (fun j => h (List.getD [41, 42, 43, 44, 45, 46, 53, 54, 55, 56, 57, 58, 7, 11, 66, 7, 11, 66] j 0)) (fun j => g (List.getD ([] : List Nat) j 0)) ν) = wX E h g (put [41, 42, 43, 44, 45, 46, 53, 54, 55, 56, 57, 58] μ ν) := putW_A (by decide +kernel) rfl rfl
theorem cut_wX_wRC_41_42_43_x44_45_46_59_60_61_62_63_64_7_11_66_7_11_66_c (E : Ev) (h : Nat → Nat) (g : Nat → Option Nat) (μ : Mem) : ([41, 42, 43, 44, 45, 46, 59, 60, 61, 62, 63, 64] : List Nat).map (fun i => (wX E h g μ)[i]?) = (wRC E (fun j => h (List.getD [41, 42, 43, 44, 45, 46, 59, 60, 61, 62, 63, 64, 7, 11, 66, 7, 11, 66] j 0)) (fun j => g (List.getD ([] : List Nat) j 0)) (sub [41, 42, 43, 44, 45, 46, 59, 60, 61, 62, 63, 64] μ)).map some := rfl
theorem cut_wX_wRC_41_42_43_x44_45_46_59_60_61_62_63_64_7_11_66_7_11_66_w (E : Ev) (h : Nat → Nat) (g : Nat → Option Nat) (μ : Mem) (ν : Mem) : putW (wX E h g μ) [41, 42, 43, 44, 45, 46, 59, 60, 61, 62, 63, 64] (wRC E (fun j => h (List.getD [41, 42, 43, 44, 45, 46, 59, 60, 61, 62, 63, 64, 7, 11, 66, 7, 11, 66] j 0)) (fun j => g (List.getD ([] : List Nat) j 0)) ν) = wX E h g (put [41, 42, 43, 44, 45, 46, 59, 60, 61, 62, 63, 64] μ ν) := putW_A (by decide +kernel) rfl rfl
theorem cut_wX_wRC_47_48_49_c (E : Ev) (h : Nat → Nat) (g : Nat → Option Nat) (μ : Mem) : ([47, 48, 49, 50, 51, 52, 41, 42, 43, 44, 45, 46] : List Nat).map (fun i => (wX E h g μ)[i]?) = (wRC E (fun j => h (List.getD [47, 48, 49, 50, 51, 52, 41, 42, 43, 44, 45, 46, 7, 11, 66, 7, 11, 66] j 0)) (fun j => g (List.getD ([] : List Nat) j 0)) (sub [47, 48, 49, 50, 51, 52, 41, 42, 43, 44, 45, 46] μ)).map some := rfl
theorem cut_wX_wRC_47_48_49_w (E : Ev) (h : Nat → Nat) (g : Nat → Option Nat) (μ : Mem) (ν : Mem) : putW (wX E h g μ) [47, 48, 49, 50, 51, 52, 41, 42, 43, 44, 45, 46] (wRC E (fun j => h (List.getD [47, 48, 49, 50, 51, 52, 41, 42, 43, 44, 45, 46, 7, 11, 66, 7, 11, 66] j 0)) (fun j => g (List.getD ([] : List Nat) j 0)) ν) = wX E h g (put [47, 48, 49, 50, 51, 52, 41, 42, 43, 44, 45, 46] μ ν) := putW_A (by decide +kernel) rfl rfl
theorem cut_wX_wRC_47_48_49_x50_51_52_53_54_55_56_57_58_7_11_66_7_11_66_c (E : Ev) (h : Nat → Nat) (g : Nat → Option Nat) (μ : Mem) : ([47, 48, 49, 50, 51, 52, 53, 54, 55, 56, 57, 58] : List Nat).map (fun i => (wX E h g μ)[i]?) = (wRC E (fun j => h (List.getD [47, 48, 49, 50, 51, 52, 53, 54, 55, 56, 57, 58, 7, 11, 66, 7, 11, 66] j 0)) (fun j => g (List.getD ([] : List Nat) j 0)) (sub [47, 48, 49, 50, 51, 52, 53, 54, 55, 56, 57, 58] μ)).map some := rfl
theorem cut_wX_wRC_47_48_49_x50_51_52_53_54_55_56_57_58_7_11_66_7_11_66_w (E : Ev) (h : Nat → Nat) (g : Nat → Option Nat) (μ : Mem) (ν : Mem) : putW (wX E h g μ) [47, 48, 49, 50, 51, 52, 53, 54, 55, 56, 57, 58] (wRC E (fun j => h (List.getD [47, 48, 49, 50, 51, 52, 53, 54, 55, 56, 57, 58, 7, 11, 66, 7, 11, 66] j 0)) (fun j => g (List.getD ([] : List Nat) j 0)) ν) = wX E h g (put [47, 48, 49, 50, 51, 52, 53, 54, 55, 56, 57, 58] μ ν) := putW_A (by decide +kernel) rfl rfl
theorem cut_wX_wRC_47_48_49_x50_51_52_59_60_61_62_63_64_7_11_66_7_11_66_c (E : Ev) (h : Nat → Nat) (g : Nat → Option Nat) (μ : Mem) : ([47, 48, 49, 50, 51, 52, 59, 60, 61, 62, 63, 64] : List Nat).map (fun i => (wX E h g μ)[i]?) = (wRC E (fun j => h (List.getD [47, 48, 49, 50, 51, 52, 59, 60, 61, 62, 63, 64, 7, 11, 66, 7, 11, 66] j 0)) (fun j => g (List.getD ([] : List Nat) j 0)) (sub [47, 48, 49, 50, 51, 52, 59, 60, 61, 62, 63, 64] μ)).map some := rfl
theorem cut_wX_wRC_47_48_49_x50_51_52_59_60_61_62_63_64_7_11_66_7_11_66_w (E : Ev) (h : Nat → Nat) (g : Nat → Option Nat) (μ : Mem) (ν : Mem) : putW (wX E h g μ) [47, 48, 49, 50, 51, 52, 59, 60, 61, 62, 63, 64] (wRC E (fun j => h (List.getD [47, 48, 49, 50, 51, 52, 59, 60, 61, 62, 63, 64, 7, 11, 66, 7, 11, 66] j 0)) (fun j => g (List.getD ([] : List Nat) j 0)) ν) = wX E h g (put [47, 48, 49, 50, 51, 52, 59, 60, 61, 62, 63, 64] μ ν) := putW_A (by decide +kernel) rfl rfl
theorem cut_wX_wRC_53_54_55_c (E : Ev) (h : Nat → Nat) (g : Nat → Option Nat) (μ : Mem) : ([53, 54, 55, 56, 57, 58, 41, 42, 43, 44, 45, 46] : List Nat).map (fun i => (wX E h g μ)[i]?) = (wRC E (fun j => h (List.getD [53, 54, 55, 56, 57, 58, 41, 42, 43, 44, 45, 46, 7, 11, 66, 7, 11, 66] j 0)) (fun j => g (List.getD ([] : List Nat) j 0)) (sub [53, 54, 55, 56, 57, 58, 41, 42, 43, 44, 45, 46] μ)).map some := rfl
theorem cut_wX_wRC_53_54_55_w (E : Ev) (h : Nat → Nat) (g : Nat → Option Nat) (μ : Mem) (ν : Mem) : putW (wX E h g μ) [53, 54, 55, 56, 57, 58, 41, 42, 43, 44, 45, 46] (wRC E (fun j => h (List.getD [53, 54, 55, 56, 57, 58, 41, 42, 43, 44, 45, 46, 7, 11, 66, 7, 11, 66] j 0)) (fun j => g (List.getD ([] : List Nat) j 0)) ν) = wX E h g (put [53, 54, 55, 56, 57, 58, 41, 42, 43, 44, 45, 46] μ ν) := putW_A (by decide +kernel) rfl rfl
theorem cut_wX_wRC_53_54_55_x56_57_58_47_48_49_50_51_52_7_11_66_7_11_66_c (E : Ev) (h : Nat → Nat) (g : Nat → Option Nat) (μ : Mem) : ([53, 54, 55, 56, 57, 58, 47, 48, 49, 50, 51, 52] : List Nat).map (fun i => (wX E h g μ)[i]?) = (wRC E (fun j => h (List.getD [53, 54, 55, 56, 57, 58, 47, 48, 49, 50, 51, 52, 7, 11, 66, 7, 11, 66] j 0)) (fun j => g (List.getD ([] : List Nat) j 0)) (sub [53, 54, 55, 56, 57, 58, 47, 48, 49, 50, 51, 52] μ)).map some := rfl
theorem cut_wX_wRC_53_54_55_x56_57_58_47_48_49_50_51_52_7_11_66_7_11_66_w (E : Ev) (h : Nat → Nat) (g : Nat → Option Nat) (μ : Mem) (ν : Mem) : putW (wX E h g μ) [53, 54, 55, 56, 57, 58, 47, 48, 49, 50, 51, 52] (wRC E (fun j => h (List.getD [53, 54, 55, 56, 57, 58, 47, 48, 49, 50, 51, 52, 7, 11, 66, 7, 11, 66] j 0)) (fun j => g (List.getD ([] : List Nat) j 0)) ν) = wX E h g (put [53, 54, 55, 56, 57, 58, 47, 48, 49, 50, 51, 52] μ ν) := putW_A (by decide +kernel) rfl rfl
theorem cut_wX_wRC_53_54_55_x56_57_58_59_60_61_62_63_64_7_11_66_7_11_66_c (E : Ev) (h : Nat → Nat) (g : Nat → Option Nat) (μ : Mem) : ([53, 54, 55, 56, 57, 58, 59, 60, 61, 62, 63, 64] : List Nat).map (fun i => (wX E h g μ)[i]?) = (wRC E (fun j => h (List.getD [53, 54, 55, 56, 57, 58, 59, 60, 61, 62, 63, 64, 7, 11, 66, 7, 11, 66] j 0)) (fun j => g (List.getD ([] : List Nat) j 0)) (sub [53, 54, 55, 56, 57, 58, 59, 60, 61, 62, 63, 64] μ)).map some := rfl
theorem cut_wX_wRC_53_54_55_x56_57_58_59_60_61_62_63_64_7_11_66_7_11_66_w (E : Ev) (h : Nat → Nat) (g : Nat → Option Nat) (μ : Mem) (ν : Mem) : putW (wX E h g μ) [53, 54, 55, 56, 57, 58, 59, 60, 61, 62, 63, 64] (wRC E (fun j => h (List.getD [53, 54, 55, 56, 57, 58, 59, 60, 61, 62, 63, 64, 7, 11, 66, 7, 11, 66] j 0)) (fun j => g (List.getD ([] : List Nat) j 0)) ν) = wX E h g (put [53, 54, 55, 56, 57, 58, 59, 60, 61, 62, 63, 64] μ ν) := putW_A (by decide +kernel) rfl rfl
theorem cut_wX_wRC_59_60_61_c (E : Ev) (h : Nat → Nat) (g : Nat → Option Nat) (μ : Mem) : ([59, 60, 61, 62, 63, 64, 41, 42, 43, 44, 45, 46] : List Nat).map (fun i => (wX E h g μ)[i]?) = (wRC E (fun j => h (List.getD [59, 60, 61, 62, 63, 64, 41, 42, 43, 44, 45, 46, 7, 11, 66, 7, 11, 66] j 0)) (fun j => g (List.getD ([] : List Nat) j 0)) (sub [59, 60, 61, 62, 63, 64, 41, 42, 43, 44, 45, 46] μ)).map some := rfl
theorem cut_wX_wRC_59_60_61_w (E : Ev) (h : Nat → Nat) (g : Nat → Option Nat) (μ : Mem) (ν : Mem) : putW (wX E h g μ) [59, 60, 61, 62, 63, 64, 41, 42, 43, 44, 45, 46] (wRC E (fun j => h (List.getD [59, 60, 61, 62, 63, 64, 41, 42, 43, 44, 45, 46, 7, 11, 66, 7, 11, 66] j 0)) (fun j => g (List.getD ([] : List Nat) j 0)) ν) = wX E h g (put [59, 60, 61, 62, 63, 64, 41, 42, 43, 44, 45, 46] μ ν) := putW_A (by decide +kernel) rfl rfl
theorem cut_wX_wRC_59_60_61_x62_63_64_47_48_49_50_51_52_7_11_66_7_11_66_c (E : Ev) (h : Nat → Nat) (g : Nat → Option Nat) (μ : Mem) : ([59, 60, 61, 62, 63, 64, 47, 48, 49, 50, 51, 52] : List Nat).map (fun i => (wX E h g μ)[i]?) = (wRC E (fun j => h (List.getD [59, 60, 61, 62, 63, 64, 47, 48, 49, 50, 51, 52, 7, 11, 66, 7, 11, 66] j 0)) (fun j => g (List.getD ([] : List Nat) j 0)) (sub [59, 60, 61, 62, 63, 64, 47, 48, 49, 50, 51, 52] μ)).map some := rfl
theorem cut_wX_wRC_59_60_61_x62_63_64_47_48_49_50_51_52_7_11_66_7_11_66_w (E : Ev) (h : Nat → Nat) (g : Nat → Option Nat) (μ : Mem) (ν : Mem) : putW (wX E h g μ) [59, 60, 61, 62, 63, 64, 47, 48, 49, 50, 51, 52] (wRC E (fun j => h (List.getD [59, 60, 61, 62, 63, 64, 47, 48, 49, 50, 51, 52, 7, 11, 66, 7, 11, 66] j 0)) (fun j => g (List.getD ([] : List Nat) j 0)) ν) = wX E h g (put [59, 60, 61, 62, 63, 64, 47, 48, 49, 50, 51, 52] μ ν) := putW_A (by decide +kernel) rfl rfl
theorem cut_wX_wRC_59_60_61_x62_63_64_53_54_55_56_57_58_7_11_66_7_11_66_c (E : Ev) (h : Nat → Nat) (g : Nat → Option Nat) (μ : Mem) : ([59, 60, 61, 62, 63, 64, 53, 54, 55, 56, 57, 58] : List Nat).map (fun i => (wX E h g μ)[i]?) = (wRC E (fun j => h (List.getD [59, 60, 61, 62, 63, 64, 53, 54, 55, 56, 57, 58, 7, 11, 66, 7, 11, 66] j 0)) (fun j => g (List.getD ([] : List Nat) j 0)) (sub [59, 60, 61, 62, 63, 64, 53, 54, 55, 56, 57, 58] μ)).map some := rfl
theorem cut_wX_wRC_59_60_61_x62_63_64_53_54_55_56_57_58_7_11_66_7_11_66_w (E : Ev) (h : Nat → Nat) (g : Nat → Option Nat) (μ : Mem) (ν : Mem) : putW (wX E h g μ) [59, 60, 61, 62, 63, 64, 53, 54, 55, 56, 57, 58] (wRC E (fun j => h (List.getD [59, 60, 61, 62, 63, 64, 53, 54, 55, 56, 57, 58, 7, 11, 66, 7, 11, 66] j 0)) (fun j => g (List.getD ([] : List Nat) j 0)) ν) = wX E h g (put [59, 60, 61, 62, 63, 64, 53, 54, 55, 56, 57, 58] μ ν) := putW_A (by decide +kernel) rfl rfl
def f_X11_flyRow_L2 : Nat → Mem → Int32 → Int32 → Int32 → Option Mem
  | 0, _, _, _, _ => none
  | n + 1, μ, x1, x2, x3 => (if x2 ≤ x3 then some μ else (if inb ((x2 - (1 : Int32)) - x3) 4 = true then bd (tabN ((x2 - (1 : Int32)) - x3).toNatClampNeg) fun y2 => ((if ¬ y2 = 0 then (if (x1 - x1 / y2 * y2) = 0 then (if (x3 + (1 : Int32)) = (0 : Int32) then (if x3 = (0 : Int32) then none else (if x3 = (1 : Int32) then (f_X4_copyFrom (sub [41, 42, 43, 44, 45, 46, 47, 48, 49, 50, 51, 52] μ)).bind fun q4 => (bd (put [41, 42, 43, 44, 45, 46, 47, 48, 49, 50, 51, 52] μ q4) fun μ5 => ((if (x3 + (1 : Int32)) = (0 : Int32) then (if ¬ y2 = 0 then (f_X4_flyAt (sub [41, 42, 43, 44, 45, 46, 7, 8, 9, 10, 11, 12, 13, 14, 66, 67, 68, 69, 70, 71, 72, 73] μ5) ((x1 / y2) - (x1 / y2) / (9 : Int32) * (9 : Int32))).bind fun q7 => (bd (put [41, 42, 43, 44, 45, 46, 7, 8, 9, 10, 11, 12, 13, 14, 66, 67, 68, 69, 70, 71, 72, 73] μ5 q7.1) fun μ8 => ((f_X11_flyRow_L2 n) μ8 x1 x2 (x3 + (1 : Int32)))) else none) else (if (x3 + (1 : Int32)) = (1 : Int32) then (if ¬ y2 = 0 then (f_X4_flyAt (sub [47, 48, 49, 50, 51, 52, 7, 8, 9, 10, 11, 12, 13, 14, 66, 67, 68, 69, 70, 71, 72, 73] μ5) ((x1 / y2) - (x1 / y2) / (9 : Int32) * (9 : Int32))).bind fun q10 => (bd (put [47, 48, 49, 50, 51, 52, 7, 8, 9, 10, 11, 12, 13, 14, 66, 67, 68, 69, 70, 71, 72, 73] μ5 q10.1) fun μ11 => ((f_X11_flyRow_L2 n) μ11 x1 x2 (x3 + (1 : Int32)))) else none) else (if (x3 + (1 : Int32)) = (2 : Int32) then (if ¬ y2 = 0 then (f_X4_flyAt (sub [53, 54, 55, 56, 57, 58, 7, 8, 9, 10, 11, 12, 13, 14, 66, 67, 68, 69, 70, 71, 72, 73] μ5) ((x1 / y2) - (x1 / y2) / (9 : Int32) * (9 : Int32))).bind fun q13 => (bd (put [53, 54, 55, 56, 57, 58, 7, 8, 9, 10, 11, 12, 13, 14, 66, 67, 68, 69, 70, 71, 72, 73] μ5 q13.1) fun μ14 => ((f_X11_flyRow_L2 n) μ14 x1 x2 (x3 + (1 : Int32)))) else none) else (if (x3 + (1 : Int32)) = (3 : Int32) then (if ¬ y2 = 0 then (f_X4_flyAt (sub [59, 60, 61, 62, 63, 64, 7, 8, 9, 10, 11, 12, 13, 14, 66, 67, 68, 69, 70, 71, 72, 73] μ5) ((x1 / y2) - (x1 / y2) / (9 : Int32) * (9 : Int32))).bind fun q16 => (bd (put [59, 60, 61, 62, 63, 64, 7, 8, 9, 10, 11, 12, 13, 14, 66, 67, 68, 69, 70, 71, 72, 73] μ5 q16.1) fun μ17 => ((f_X11_flyRow_L2 n) μ17 x1 x2 (x3 + (1 : Int32)))) else none) else none)))))) else (if x3 = (2 : Int32) then (f_X4_copyFrom (sub [41, 42, 43, 44, 45, 46, 53, 54, 55, 56, 57, 58] μ)).bind fun q18 => (bd (put [41, 42, 43, 44, 45, 46, 53, 54, 55, 56, 57, 58] μ q18) fun μ19 => ((if (x3 + (1 : Int32)) = (0 : Int32) then (if ¬ y2 = 0 then (f_X4_flyAt (sub [41, 42, 43, 44, 45, 46, 7, 8, 9, 10, 11, 12, 13, 14, 66, 67, 68, 69, 70, 71, 72, 73] μ19) ((x1 / y2) - (x1 / y2) / (9 : Int32) * (9 : Int32))).bind fun q21 => (bd (put [41, 42, 43, 44, 45, 46, 7, 8, 9, 10, 11, 12, 13, 14, 66, 67, 68, 69, 70, 71, 72, 73] μ19 q21.1) fun μ22 => ((f_X11_flyRow_L2 n) μ22 x1 x2 (x3 + (1 : Int32)))) else none) else (if (x3 + (1 : Int32)) = (1 : Int32) then (if ¬ y2 = 0 then (f_X4_flyAt (sub [47, 48, 49, 50, 51, 52, 7, 8, 9, 10, 11, 12, 13, 14, 66, 67, 68, 69, 70, 71, 72, 73] μ19) ((x1 / y2) - (x1 / y2) / (9 : Int32) * (9 : Int32))).bind fun q24 => (bd (put [47, 48, 49, 50, 51, 52, 7, 8, 9, 10, 11, 12, 13, 14, 66, 67, 68, 69, 70, 71, 72, 73] μ19 q24.1) fun μ25 => ((f_X11_flyRow_L2 n) μ25 x1 x2 (x3 + (1 : Int32)))) else none) else (if (x3 + (1 : Int32)) = (2 : Int32) then (if ¬ y2 = 0 then (f_X4_flyAt (sub [53, 54, 55, 56, 57, 58, 7, 8, 9, 10, 11, 12, 13, 14, 66, 67, 68, 69, 70, 71, 72, 73] μ19) ((x1 / y2) - (x1 / y2) / (9 : Int32) * (9 : Int32))).bind fun q27 => (bd (put [53, 54, 55, 56, 57, 58, 7, 8, 9, 10, 11, 12, 13, 14, 66, 67, 68, 69, 70, 71, 72, 73] μ19 q27.1) fun μ28 => ((f_X11_flyRow_L2 n) μ28 x1 x2 (x3 + (1 : Int32)))) else none) else (if (x3 + (1 : Int32)) = (3 : Int32) then (if ¬ y2 = 0 then (f_X4_flyAt (sub [59, 60, 61, 62, 63, 64, 7, 8, 9, 10, 11, 12, 13, 14, 66, 67, 68, 69, 70, 71, 72, 73] μ19) ((x1 / y2) - (x1 / y2) / (9 : Int32) * (9 : Int32))).bind fun q30 => (bd (put [59, 60, 61, 62, 63, 64, 7, 8, 9, 10, 11, 12, 13, 14, 66, 67, 68, 69, 70, 71, 72, 73] μ19 q30.1) fun μ31 => ((f_X11_flyRow_L2 n) μ31 x1 x2 (x3 + (1 : Int32)))) else none) else none)))))) else (if x3 = (3 : Int32) then (f_X4_copyFrom (sub [41, 42, 43, 44, 45, 46, 59, 60, 61, 62, 63, 64] μ)).bind fun q32 => (bd (put [41, 42, 43, 44, 45, 46, 59, 60, 61, 62, 63, 64] μ q32) fun μ33 => ((if (x3 + (1 : Int32)) = (0 : Int32) then (if ¬ y2 = 0 then (f_X4_flyAt (sub [41, 42, 43, 44, 45, 46, 7, 8, 9, 10, 11, 12, 13, 14, 66, 67, 68, 69, 70, 71, 72, 73] μ33) ((x1 / y2) - (x1 / y2) / (9 : Int32) * (9 : Int32))).bind fun q35 => (bd (put [41, 42, 43, 44, 45, 46, 7, 8, 9, 10, 11, 12, 13, 14, 66, 67, 68, 69, 70, 71, 72, 73] μ33 q35.1) fun μ36 => ((f_X11_flyRow_L2 n) μ36 x1 x2 (x3 + (1 : Int32)))) else none) else (if (x3 + (1 : Int32)) = (1 : Int32) then (if ¬ y2 = 0 then (f_X4_flyAt (sub [47, 48, 49, 50, 51, 52, 7, 8, 9, 10, 11, 12, 13, 14, 66, 67, 68, 69, 70, 71, 72, 73] μ33) ((x1 / y2) - (x1 / y2) / (9 : Int32) * (9 : Int32))).bind fun q38 => (bd (put [47, 48, 49, 50, 51, 52, 7, 8, 9, 10, 11, 12, 13, 14, 66, 67, 68, 69, 70, 71, 72, 73] μ33 q38.1) fun μ39 => ((f_X11_flyRow_L2 n) μ39 x1 x2 (x3 + (1 : Int32)))) else none) else (if (x3 + (1 : Int32)) = (2 : Int32) then (if ¬ y2 = 0 then (f_X4_flyAt (sub [53, 54, 55, 56, 57, 58, 7, 8, 9, 10, 11, 12, 13, 14, 66, 67, 68, 69, 70, 71, 72, 73] μ33) ((x1 / y2) - (x1 / y2) / (9 : Int32) * (9 : Int32))).bind fun q41 => (bd (put [53, 54, 55, 56, 57, 58, 7, 8, 9, 10, 11, 12, 13, 14, 66, 67, 68, 69, 70, 71, 72, 73] μ33 q41.1) fun μ42 => ((f_X11_flyRow_L2 n) μ42 x1 x2 (x3 + (1 : Int32)))) else none) else (if (x3 + (1 : Int32)) = (3 : Int32) then (if ¬ y2 = 0 then (f_X4_flyAt (sub [59, 60, 61, 62, 63, 64, 7, 8, 9, 10, 11, 12, 13, 14, 66, 67, 68, 69, 70, 71, 72, 73] μ33) ((x1 / y2) - (x1 / y2) / (9 : Int32) * (9 : Int32))).bind fun q44 => (bd (put [59, 60, 61, 62, 63, 64, 7, 8, 9, 10, 11, 12, 13, 14, 66, 67, 68, 69, 70, 71, 72, 73] μ33 q44.1) fun μ45 => ((f_X11_flyRow_L2 n) μ45 x1 x2 (x3 + (1 : Int32)))) else none) else none)))))) else none)))) else (if (x3 + (1 : Int32)) = (1 : Int32) then (if x3 = (0 : Int32) then (f_X4_copyFrom (sub [47, 48, 49, 50, 51, 52, 41, 42, 43, 44, 45, 46] μ)).bind fun q46 => (bd (put [47, 48, 49, 50, 51, 52, 41, 42, 43, 44, 45, 46] μ q46) fun μ47 => ((if (x3 + (1 : Int32)) = (0 : Int32) then (if ¬ y2 = 0 then (f_X4_flyAt (sub [41, 42, 43, 44, 45, 46, 7, 8, 9, 10, 11, 12, 13, 14, 66, 67, 68, 69, 70, 71, 72, 73] μ47) ((x1 / y2) - (x1 / y2) / (9 : Int32) * (9 : Int32))).bind fun q49 => (bd (put [41, 42, 43, 44, 45, 46, 7, 8, 9, 10, 11, 12, 13, 14, 66, 67, 68, 69, 70, 71, 72, 73] μ47 q49.1) fun μ50 => ((f_X11_flyRow_L2 n) μ50 x1 x2 (x3 + (1 : Int32)))) else none) else (if (x3 + (1 : Int32)) = (1 : Int32) then (if ¬ y2 = 0 then (f_X4_flyAt (sub [47, 48, 49, 50, 51, 52, 7, 8, 9, 10, 11, 12, 13, 14, 66, 67, 68, 69, 70, 71, 72, 73] μ47) ((x1 / y2) - (x1 / y2) / (9 : Int32) * (9 : Int32))).bind fun q52 => (bd (put [47, 48, 49, 50, 51, 52, 7, 8, 9, 10, 11, 12, 13, 14, 66, 67, 68, 69, 70, 71, 72, 73] μ47 q52.1) fun μ53 => ((f_X11_flyRow_L2 n) μ53 x1 x2 (x3 + (1 : Int32)))) else none) else (if (x3 + (1 : Int32)) = (2 : Int32) then (if ¬ y2 = 0 then (f_X4_flyAt (sub [53, 54, 55, 56, 57, 58, 7, 8, 9, 10, 11, 12, 13, 14, 66, 67, 68, 69, 70, 71, 72, 73] μ47) ((x1 / y2) - (x1 / y2) / (9 : Int32) * (9 : Int32))).bind fun q55 => (bd (put [53, 54, 55, 56, 57, 58, 7, 8, 9, 10, 11, 12, 13, 14, 66, 67, 68, 69, 70, 71, 72, 73] μ47 q55.1) fun μ56 => ((f_X11_flyRow_L2 n) μ56 x1 x2 (x3 + (1 : Int32)))) else none) else (if (x3 + (1 : Int32)) = (3 : Int32) then (if ¬ y2 = 0 then (f_X4_flyAt (sub [59, 60, 61, 62, 63, 64, 7, 8, 9, 10, 11, 12, 13, 14, 66, 67, 68, 69, 70, 71, 72, 73] μ47) ((x1 / y2) - (x1 / y2) / (9 : Int32) * (9 : Int32))).bind fun q58 => (bd (put [59, 60, 61, 62, 63, 64, 7, 8, 9, 10, 11, 12, 13, 14, 66, 67, 68, 69, 70, 71, 72, 73] μ47 q58.1) fun μ59 => ((f_X11_flyRow_L2 n) μ59 x1 x2 (x3 + (1 : Int32)))) else none) else none)))))) else (if x3 = (1 : Int32) then none else (if x3 = (2 : Int32) then (f_X4_copyFrom (sub [47, 48, 49, 50, 51, 52, 53, 54, 55, 56, 57, 58] μ)).bind fun q60 => (bd (put [47, 48, 49, 50, 51, 52, 53, 54, 55, 56, 57, 58] μ q60) fun μ61 => ((if (x3 + (1 : Int32)) = (0 : Int32) then (if ¬ y2 = 0 then (f_X4_flyAt (sub [41, 42, 43, 44, 45, 46, 7, 8, 9, 10, 11, 12, 13, 14, 66, 67, 68, 69, 70, 71, 72, 73] μ61) ((x1 / y2) - (x1 / y2) / (9 : Int32) * (9 : Int32))).bind fun q63 => (bd (put [41, 42, 43, 44, 45, 46, 7, 8, 9, 10, 11, 12, 13, 14, 66, 67, 68, 69, 70, 71, 72, 73] μ61 q63.1) fun μ64 => ((f_X11_flyRow_L2 n) μ64 x1 x2 (x3 + (1 : Int32)))) else none) else (if (x3 + (1 : Int32)) = (1 : Int32) then (if ¬ y2 = 0 then (f_X4_flyAt (sub [47, 48, 49, 50, 51, 52, 7, 8, 9, 10, 11, 12, 13, 14, 66, 67, 68, 69, 70, 71, 72, 73] μ61) ((x1 / y2) - (x1 / y2) / (9 : Int32) * (9 : Int32))).bind fun q66 => (bd (put [47, 48, 49, 50, 51, 52, 7, 8, 9, 10, 11, 12, 13, 14, 66, 67, 68, 69, 70, 71, 72, 73] μ61 q66.1) fun μ67 => ((f_X11_flyRow_L2 n) μ67 x1 x2 (x3 + (1 : Int32)))) else none) else (if (x3 + (1 : Int32)) = (2 : Int32) then (if ¬ y2 = 0 then (f_X4_flyAt (sub [53, 54, 55, 56, 57, 58, 7, 8, 9, 10, 11, 12, 13, 14, 66, 67, 68, 69, 70, 71, 72, 73] μ61) ((x1 / y2) - (x1 / y2) / (9 : Int32) * (9 : Int32))).bind fun q69 => (bd (put [53, 54, 55, 56, 57, 58, 7, 8, 9, 10, 11, 12, 13, 14, 66, 67, 68, 69, 70, 71, 72, 73] μ61 q69.1) fun μ70 => ((f_X11_flyRow_L2 n) μ70 x1 x2 (x3 + (1 : Int32)))) else none) else (if (x3 + (1 : Int32)) = (3 : Int32) then (if ¬ y2 = 0 then (f_X4_flyAt (sub [59, 60, 61, 62, 63, 64, 7, 8, 9, 10, 11, 12, 13, 14, 66, 67, 68, 69, 70, 71, 72, 73] μ61) ((x1 / y2) - (x1 / y2) / (9 : Int32) * (9 : Int32))).bind fun q72 => (bd (put [59, 60, 61, 62, 63, 64, 7, 8, 9, 10, 11, 12, 13, 14, 66, 67, 68, 69, 70, 71, 72, 73] μ61 q72.1) fun μ73 => ((f_X11_flyRow_L2 n) μ73 x1 x2 (x3 + (1 : Int32)))) else none) else none)))))) else (if x3 = (3 : Int32) then (f_X4_copyFrom (sub [47, 48, 49, 50, 51, 52, 59, 60, 61, 62, 63, 64] μ)).bind fun q74 => (bd (put [47, 48, 49, 50, 51, 52, 59, 60, 61, 62, 63, 64] μ q74) fun μ75 => ((if (x3 + (1 : Int32)) = (0 : Int32) then (if ¬ y2 = 0 then (f_X4_flyAt (sub [41, 42, 43, 44, 45, 46, 7, 8, 9, 10, 11, 12, 13, 14, 66, 67, 68, 69, 70, 71, 72, 73] μ75) ((x1 / y2) - (x1 / y2) / (9 : Int32) * (9 : Int32))).bind fun q77 => (bd (put [41, 42, 43, 44, 45, 46, 7, 8, 9, 10, 11, 12, 13, 14, 66, 67, 68, 69, 70, 71, 72, 73] μ75 q77.1) fun μ78 => ((f_X11_flyRow_L2 n) μ78 x1 x2 (x3 + (1 : Int32)))) else none) else (if (x3 + (1 : Int32)) = (1 : Int32) then (if ¬ y2 = 0 then (f_X4_flyAt (sub [47, 48, 49, 50, 51, 52, 7, 8, 9, 10, 11, 12, 13, 14, 66, 67, 68, 69, 70, 71, 72, 73] μ75) ((x1 / y2) - (x1 / y2) / (9 : Int32) * (9 : Int32))).bind fun q80 => (bd (put [47, 48, 49, 50, 51, 52, 7, 8, 9, 10, 11, 12, 13, 14, 66, 67, 68, 69, 70, 71, 72, 73] μ75 q80.1) fun μ81 => ((f_X11_flyRow_L2 n) μ81 x1 x2 (x3 + (1 : Int32)))) else none) else (if (x3 + (1 : Int32)) = (2 : Int32) then (if ¬ y2 = 0 then (f_X4_flyAt (sub [53, 54, 55, 56, 57, 58, 7, 8, 9, 10, 11, 12, 13, 14, 66, 67, 68, 69, 70, 71, 72, 73] μ75) ((x1 / y2) - (x1 / y2) / (9 : Int32) * (9 : Int32))).bind fun q83 => (bd (put [53, 54, 55, 56, 57, 58, 7, 8, 9, 10, 11, 12, 13, 14, 66, 67, 68, 69, 70, 71, 72, 73] μ75 q83.1) fun μ84 => ((f_X11_flyRow_L2 n) μ84 x1 x2 (x3 + (1 : Int32)))) else none) else (if (x3 + (1 : Int32)) = (3 : Int32) then (if ¬ y2 = 0 then (f_X4_flyAt (sub [59, 60, 61, 62, 63, 64, 7, 8, 9, 10, 11, 12, 13, 14, 66, 67, 68, 69, 70, 71, 72, 73] μ75) ((x1 / y2) - (x1 / y2) / (9 : Int32) * (9 : Int32))).bind fun q86 => (bd (put [59, 60, 61, 62, 63, 64, 7, 8, 9, 10, 11, 12, 13, 14, 66, 67, 68, 69, 70, 71, 72, 73] μ75 q86.1) fun μ87 => ((f_X11_flyRow_L2 n) μ87 x1 x2 (x3 + (1 : Int32)))) else none) else none)))))) else none)))) else (if (x3 + (1 : Int32)) = (2 : Int32) then (if x3 = (0 : Int32) then (f_X4_copyFrom (sub [53, 54, 55, 56, 57, 58, 41, 42, 43, 44, 45, 46] μ)).bind fun q88 => (bd (put [53, 54, 55, 56, 57, 58, 41, 42, 43, 44, 45, 46] μ q88) fun μ89 => ((if (x3 + (1 : Int32)) = (0 : Int32) then (if ¬ y2 = 0 then (f_X4_flyAt (sub [41, 42, 43, 44, 45, 46, 7, 8, 9, 10, 11, 12, 13, 14, 66, 67, 68, 69, 70, 71, 72, 73] μ89) ((x1 / y2) - (x1 / y2) / (9 : Int32) * (9 : Int32))).bind fun q91 => (bd (put [41, 42, 43, 44, 45, 46, 7, 8, 9, 10, 11, 12, 13, 14, 66, 67, 68, 69, 70, 71, 72, 73] μ89 q91.1) fun μ92 => ((f_X11_flyRow_L2 n) μ92 x1 x2 (x3 + (1 : Int32)))) else none) else (if (x3 + (1 : Int32)) = (1 : Int32) then (if ¬ y2 = 0 then (f_X4_flyAt (sub [47, 48, 49, 50, 51, 52, 7, 8, 9, 10, 11, 12, 13, 14, 66, 67, 68, 69, 70, 71, 72, 73] μ89) ((x1 / y2) - (x1 / y2) / (9 : Int32) * (9 : Int32))).bind fun q94 => (bd (put [47, 48, 49, 50, 51, 52, 7, 8, 9, 10, 11, 12, 13, 14, 66, 67, 68, 69, 70, 71, 72, 73] μ89 q94.1) fun μ95 => ((f_X11_flyRow_L2 n) μ95 x1 x2 (x3 + (1 : Int32)))) else none) else (if (x3 + (1 : Int32)) = (2 : Int32) then (if ¬ y2 = 0 then (f_X4_flyAt (sub [53, 54, 55, 56, 57, 58, 7, 8, 9, 10, 11, 12, 13, 14, 66, 67, 68, 69, 70, 71, 72, 73] μ89) ((x1 / y2) - (x1 / y2) / (9 : Int32) * (9 : Int32))).bind fun q97 => (bd (put [53, 54, 55, 56, 57, 58, 7, 8, 9, 10, 11, 12, 13, 14, 66, 67, 68, 69, 70, 71, 72, 73] μ89 q97.1) fun μ98 => ((f_X11_flyRow_L2 n) μ98 x1 x2 (x3 + (1 : Int32)))) else none) else (if (x3 + (1 : Int32)) = (3 : Int32) then (if ¬ y2 = 0 then (f_X4_flyAt (sub [59, 60, 61, 62, 63, 64, 7, 8, 9, 10, 11, 12, 13, 14, 66, 67, 68, 69, 70, 71, 72, 73] μ89) ((x1 / y2) - (x1 / y2) / (9 : Int32) * (9 : Int32))).bind fun q100 => (bd (put [59, 60, 61, 62, 63, 64, 7, 8, 9, 10, 11, 12, 13, 14, 66, 67, 68, 69, 70, 71, 72, 73] μ89 q100.1) fun μ101 => ((f_X11_flyRow_L2 n) μ101 x1 x2 (x3 + (1 : Int32)))) else none) else none)))))) else (if x3 = (1 : Int32) then (f_X4_copyFrom (sub [53, 54, 55, 56, 57, 58, 47, 48, 49, 50, 51, 52] μ)).bind fun q102 => (bd (put [53, 54, 55, 56, 57, 58, 47, 48, 49, 50, 51, 52] μ q102) fun μ103 => ((if (x3 + (1 : Int32)) = (0 : Int32) then (if ¬ y2 = 0 then (f_X4_flyAt (sub [41, 42, 43, 44, 45, 46, 7, 8, 9, 10, 11, 12, 13, 14, 66, 67, 68, 69, 70, 71, 72, 73] μ103) ((x1 / y2) - (x1 / y2) / (9 : Int32) * (9 : Int32))).bind fun q105 => (bd (put [41, 42, 43, 44, 45, 46, 7, 8, 9, 10, 11, 12, 13, 14, 66, 67, 68, 69, 70, 71, 72, 73] μ103 q105.1) fun μ106 => ((f_X11_flyRow_L2 n) μ106 x1 x2 (x3 + (1 : Int32)))) else none) else (if (x3 + (1 : Int32)) = (1 : Int32) then (if ¬ y2 = 0 then (f_X4_flyAt (sub [47, 48, 49, 50, 51, 52, 7, 8, 9, 10, 11, 12, 13, 14, 66, 67, 68, 69, 70, 71, 72, 73] μ103) ((x1 / y2) - (x1 / y2) / (9 : Int32) * (9 : Int32))).bind fun q108 => (bd (put [47, 48, 49, 50, 51, 52, 7, 8, 9, 10, 11, 12, 13, 14, 66, 67, 68, 69, 70, 71, 72, 73] μ103 q108.1) fun μ109 => ((f_X11_flyRow_L2 n) μ109 x1 x2 (x3 + (1 : Int32)))) else none) else (if (x3 + (1 : Int32)) = (2 : Int32) then (if ¬ y2 = 0 then (f_X4_flyAt (sub [53, 54, 55, 56, 57, 58, 7, 8, 9, 10, 11, 12, 13, 14, 66, 67, 68, 69, 70, 71, 72, 73] μ103) ((x1 / y2) - (x1 / y2) / (9 : Int32) * (9 : Int32))).bind fun q111 => (bd (put [53, 54, 55, 56, 57, 58, 7, 8, 9, 10, 11, 12, 13, 14, 66, 67, 68, 69, 70, 71, 72, 73] μ103 q111.1) fun μ112 => ((f_X11_flyRow_L2 n) μ112 x1 x2 (x3 + (1 : Int32)))) else none) else (if (x3 + (1 : Int32)) = (3 : Int32) then (if ¬ y2 = 0 then (f_X4_flyAt (sub [59, 60, 61, 62, 63, 64, 7, 8, 9, 10, 11, 12, 13, 14, 66, 67, 68, 69, 70, 71, 72, 73] μ103) ((x1 / y2) - (x1 / y2) / (9 : Int32) * (9 : Int32))).bind fun q114 => (bd (put [59, 60, 61, 62, 63, 64, 7, 8, 9, 10, 11, 12, 13, 14, 66, 67, 68, 69, 70, 71, 72, 73] μ103 q114.1) fun μ115 => ((f_X11_flyRow_L2 n) μ115 x1 x2 (x3 + (1 : Int32)))) else none) else none)))))) else (if x3 = (2 : Int32) then none else (if x3 = (3 : Int32) then (f_X4_copyFrom (sub [53, 54, 55, 56, 57, 58, 59, 60, 61, 62, 63, 64] μ)).bind fun q116 => (bd (put [53, 54, 55, 56, 57, 58, 59, 60, 61, 62, 63, 64] μ q116) fun μ117 => ((if (x3 + (1 : Int32)) = (0 : Int32) then (if ¬ y2 = 0 then (f_X4_flyAt (sub [41, 42, 43, 44, 45, 46, 7, 8, 9, 10, 11, 12, 13, 14, 66, 67, 68, 69, 70, 71, 72, 73] μ117) ((x1 / y2) - (x1 / y2) / (9 : Int32) * (9 : Int32))).bind fun q119 => (bd (put [41, 42, 43, 44, 45, 46, 7, 8, 9, 10, 11, 12, 13, 14, 66, 67, 68, 69, 70, 71, 72, 73] μ117 q119.1) fun μ120 => ((f_X11_flyRow_L2 n) μ120 x1 x2 (x3 + (1 : Int32)))) else none) else (if (x3 + (1 : Int32)) = (1 : Int32) then (if ¬ y2 = 0 then (f_X4_flyAt (sub [47, 48, 49, 50, 51, 52, 7, 8, 9, 10, 11, 12, 13, 14, 66, 67, 68, 69, 70, 71, 72, 73] μ117) ((x1 / y2) - (x1 / y2) / (9 : Int32) * (9 : Int32))).bind fun q122 => (bd (put [47, 48, 49, 50, 51, 52, 7, 8, 9, 10, 11, 12, 13, 14, 66, 67, 68, 69, 70, 71, 72, 73] μ117 q122.1) fun μ123 => ((f_X11_flyRow_L2 n) μ123 x1 x2 (x3 + (1 : Int32)))) else none) else (if (x3 + (1 : Int32)) = (2 : Int32) then (if ¬ y2 = 0 then (f_X4_flyAt (sub [53, 54, 55, 56, 57, 58, 7, 8, 9, 10, 11, 12, 13, 14, 66, 67, 68, 69, 70, 71, 72, 73] μ117) ((x1 / y2) - (x1 / y2) / (9 : Int32) * (9 : Int32))).bind fun q125 => (bd (put [53, 54, 55, 56, 57, 58, 7, 8, 9, 10, 11, 12, 13, 14, 66, 67, 68, 69, 70, 71, 72, 73] μ117 q125.1) fun μ126 => ((f_X11_flyRow_L2 n) μ126 x1 x2 (x3 + (1 : Int32)))) else none) else (if (x3 + (1 : Int32)) = (3 : Int32) then (if ¬ y2 = 0 then (f_X4_flyAt (sub [59, 60, 61, 62, 63, 64, 7, 8, 9, 10, 11, 12, 13, 14, 66, 67, 68, 69, 70, 71, 72, 73] μ117) ((x1 / y2) - (x1 / y2) / (9 : Int32) * (9 : Int32))).bind fun q128 => (bd (put [59, 60, 61, 62, 63, 64, 7, 8, 9, 10, 11, 12, 13, 14, 66, 67, 68, 69, 70, 71, 72, 73] μ117 q128.1) fun μ129 => ((f_X11_flyRow_L2 n) μ129 x1 x2 (x3 + (1 : Int32)))) else none) else none)))))) else none)))) else (if (x3 + (1 : Int32)) = (3 : Int32) then (if x3 = (0 : Int32) then (f_X4_copyFrom (sub [59, 60, 61, 62, 63, 64, 41, 42, 43, 44, 45, 46] μ)).bind fun q130 => (bd (put [59, 60, 61, 62, 63, 64, 41, 42, 43, 44, 45, 46] μ q130) fun μ131 => ((if (x3 + (1 : Int32)) = (0 : Int32) then (if ¬ y2 = 0 then (f_X4_flyAt (sub [41, 42, 43, 44, 45, 46, 7, 8, 9, 10, 11, 12, 13, 14, 66, 67, 68, 69, 70, 71, 72, 73] μ131) ((x1 / y2) - (x1 / y2) / (9 : Int32) * (9 : Int32))).bind fun q133 => (bd (put [41, 42, 43, 44, 45, 46, 7, 8, 9, 10, 11, 12, 13, 14, 66, 67, 68, 69, 70, 71, 72, 73] μ131 q133.1) fun μ134 => ((f_X11_flyRow_L2 n) μ134 x1 x2 (x3 + (1 : Int32)))) else none) else (if (x3 + (1 : Int32)) = (1 : Int32) then (if ¬ y2 = 0 then (f_X4_flyAt (sub [47, 48, 49, 50, 51, 52, 7, 8, 9, 10, 11, 12, 13, 14, 66, 67, 68, 69, 70, 71, 72, 73] μ131) ((x1 / y2) - (x1 / y2) / (9 : Int32) * (9 : Int32))).bind fun q136 => (bd (put [47, 48, 49, 50, 51, 52, 7, 8, 9, 10, 11, 12, 13, 14, 66, 67, 68, 69, 70, 71, 72, 73] μ131 q136.1) fun μ137 => ((f_X11_flyRow_L2 n) μ137 x1 x2 (x3 + (1 : Int32)))) else none) else (if (x3 + (1 : Int32)) = (2 : Int32) then (if ¬ y2 = 0 then (f_X4_flyAt (sub [53, 54, 55, 56, 57, 58, 7, 8, 9, 10, 11, 12, 13, 14, 66, 67, 68, 69, 70, 71, 72, 73] μ131) ((x1 / y2) - (x1 / y2) / (9 : Int32) * (9 : Int32))).bind fun q139 => (bd (put [53, 54, 55, 56, 57, 58, 7, 8, 9, 10, 11, 12, 13, 14, 66, 67, 68, 69, 70, 71, 72, 73] μ131 q139.1) fun μ140 => ((f_X11_flyRow_L2 n) μ140 x1 x2 (x3 + (1 : Int32)))) else none) else (if (x3 + (1 : Int32)) = (3 : Int32) then (if ¬ y2 = 0 then (f_X4_flyAt (sub [59, 60, 61, 62, 63, 64, 7, 8, 9, 10, 11, 12, 13, 14, 66, 67, 68, 69, 70, 71, 72, 73] μ131) ((x1 / y2) - (x1 / y2) / (9 : Int32) * (9 : Int32))).bind fun q142 => (bd (put [59, 60, 61, 62, 63, 64, 7, 8, 9, 10, 11, 12, 13, 14, 66, 67, 68, 69, 70, 71, 72, 73] μ131 q142.1) fun μ143 => ((f_X11_flyRow_L2 n) μ143 x1 x2 (x3 + (1 : Int32)))) else none) else none)))))) else (if x3 = (1 : Int32) then (f_X4_copyFrom (sub [59, 60, 61, 62, 63, 64, 47, 48, 49, 50, 51, 52] μ)).bind fun q144 => (bd (put [59, 60, 61, 62, 63, 64, 47, 48, 49, 50, 51, 52] μ q144) fun μ145 => ((if (x3 + (1 : Int32)) = (0 : Int32) then (if ¬ y2 = 0 then (f_X4_flyAt (sub [41, 42, 43, 44, 45, 46, 7, 8, 9, 10, 11, 12, 13, 14, 66, 67, 68, 69, 70, 71, 72, 73] μ145) ((x1 / y2) - (x1 / y2) / (9 : Int32) * (9 : Int32))).bind fun q147 => (bd (put [41, 42, 43, 44, 45, 46, 7, 8, 9, 10, 11, 12, 13, 14, 66, 67, 68, 69, 70, 71, 72, 73] μ145 q147.1) fun μ148 => ((f_X11_flyRow_L2 n) μ148 x1 x2 (x3 + (1 : Int32)))) else none) else (if (x3 + (1 : Int32)) = (1 : Int32) then (if ¬ y2 = 0 then (f_X4_flyAt (sub [47, 48, 49, 50, 51, 52, 7, 8, 9, 10, 11, 12, 13, 14, 66, 67, 68, 69, 70, 71, 72, 73] μ145) ((x1 / y2) - (x1 / y2) / (9 : Int32) * (9 : Int32))).bind fun q150 => (bd (put [47, 48, 49, 50, 51, 52, 7, 8, 9, 10, 11, 12, 13, 14, 66, 67, 68, 69, 70, 71, 72, 73] μ145 q150.1) fun μ151 => ((f_X11_flyRow_L2 n) μ151 x1 x2 (x3 + (1 : Int32)))) else none) else (if (x3 + (1 : Int32)) = (2 : Int32) then (if ¬ y2 = 0 then (f_X4_flyAt (sub [53, 54, 55, 56, 57, 58, 7, 8, 9, 10, 11, 12, 13, 14, 66, 67, 68, 69, 70, 71, 72, 73] μ145) ((x1 / y2) - (x1 / y2) / (9 : Int32) * (9 : Int32))).bind fun q153 => (bd (put [53, 54, 55, 56, 57, 58, 7, 8, 9, 10, 11, 12, 13, 14, 66, 67, 68, 69, 70, 71, 72, 73] μ145 q153.1) fun μ154 => ((f_X11_flyRow_L2 n) μ154 x1 x2 (x3 + (1 : Int32)))) else none) else (if (x3 + (1 : Int32)) = (3 : Int32) then (if ¬ y2 = 0 then (f_X4_flyAt (sub [59, 60, 61, 62, 63, 64, 7, 8, 9, 10, 11, 12, 13, 14, 66, 67, 68, 69, 70, 71, 72, 73] μ145) ((x1 / y2) - (x1 / y2) / (9 : Int32) * (9 : Int32))).bind fun q156 => (bd (put [59, 60, 61, 62, 63, 64, 7, 8, 9, 10, 11, 12, 13, 14, 66, 67, 68, 69, 70, 71, 72, 73] μ145 q156.1) fun μ157 => ((f_X11_flyRow_L2 n) μ157 x1 x2 (x3 + (1 : Int32)))) else none) else none)))))) else (if x3 = (2 : Int32) then (f_X4_copyFrom (sub [59, 60, 61, 62, 63, 64, 53, 54, 55, 56, 57, 58] μ)).bind fun q158 => (bd (put [59, 60, 61, 62, 63, 64, 53, 54, 55, 56, 57, 58] μ q158) fun μ159 => ((if (x3 + (1 : Int32)) = (0 : Int32) then (if ¬ y2 = 0 then (f_X4_flyAt (sub [41, 42, 43, 44, 45, 46, 7, 8, 9, 10, 11, 12, 13, 14, 66, 67, 68, 69, 70, 71, 72, 73] μ159) ((x1 / y2) - (x1 / y2) / (9 : Int32) * (9 : Int32))).bind fun q161 => (bd (put [41, 42, 43, 44, 45, 46, 7, 8, 9, 10, 11, 12, 13, 14, 66, 67, 68, 69, 70, 71, 72, 73] μ159 q161.1) fun μ162 => ((f_X11_flyRow_L2 n) μ162 x1 x2 (x3 + (1 : Int32)))) else none) else (if (x3 + (1 : Int32)) = (1 : Int32) then (if ¬ y2 = 0 then (f_X4_flyAt (sub [47, 48, 49, 50, 51, 52, 7, 8, 9, 10, 11, 12, 13, 14, 66, 67, 68, 69, 70, 71, 72, 73] μ159) ((x1 / y2) - (x1 / y2) / (9 : Int32) * (9 : Int32))).bind fun q164 => (bd (put [47, 48, 49, 50, 51, 52, 7, 8, 9, 10, 11, 12, 13, 14, 66, 67, 68, 69, 70, 71, 72, 73] μ159 q164.1) fun μ165 => ((f_X11_flyRow_L2 n) μ165 x1 x2 (x3 + (1 : Int32)))) else none) else (if (x3 + (1 : Int32)) = (2 : Int32) then (if ¬ y2 = 0 then (f_X4_flyAt (sub [53, 54, 55, 56, 57, 58, 7, 8, 9, 10, 11, 12, 13, 14, 66, 67, 68, 69, 70, 71, 72, 73] μ159) ((x1 / y2) - (x1 / y2) / (9 : Int32) * (9 : Int32))).bind fun q167 => (bd (put [53, 54, 55, 56, 57, 58, 7, 8, 9, 10, 11, 12, 13, 14, 66, 67, 68, 69, 70, 71, 72, 73] μ159 q167.1) fun μ168 => ((f_X11_flyRow_L2 n) μ168 x1 x2 (x3 + (1 : Int32)))) else none) else (if (x3 + (1 : Int32)) = (3 : Int32) then (if ¬ y2 = 0 then (f_X4_flyAt (sub [59, 60, 61, 62, 63, 64, 7, 8, 9, 10, 11, 12, 13, 14, 66, 67, 68, 69, 70, 71, 72, 73] μ159) ((x1 / y2) - (x1 / y2) / (9 : Int32) * (9 : Int32))).bind fun q170 => (bd (put [59, 60, 61, 62, 63, 64, 7, 8, 9, 10, 11, 12, 13, 14, 66, 67, 68, 69, 70, 71, 72, 73] μ159 q170.1) fun μ171 => ((f_X11_flyRow_L2 n) μ171 x1 x2 (x3 + (1 : Int32)))) else none) else none)))))) else (if x3 = (3 : Int32) then none else none)))) else none)))) else (f_X11_flyRow_L2 n) μ x1 x2 (x3 + (1 : Int32))) else none)) else none))
def f_X11_flyRow (μ : Mem) (x1 : Int32) (x2 : Int32) : Option Mem := f_X11_flyRow_L2 fuel0 μ x1 x2 (0 : Int32)
set_option maxHeartbeats 4000000 in
set_option maxRecDepth 20000 in
theorem c_X11_flyRow (tn tt : Nat) (E : Ev) (h : Nat → Nat) (g : Nat → Option Nat) {μ : Mem} {x1 : Int32} {x2 : Int32} {r : Mem} (hf : f_X11_flyRow μ x1 x2 = some r) : CtF tn tt E yX11_flyRow cX11_flyRow 5 none (rmOf 5 115) (wX E h g μ) (wX E h g r) [.ref (h 0), .int x1, .int x2] none := by
  refine ctF_start RX11 2 (by decide) rfl (Nat.le_of_ble_eq_true rfl) ?_
  intro p l e s m args below meth c A Q X F hr hlk hQ
  have lab2 : ∀ (n : Nat) (μ : Mem) (x1 : Int32) (x2 : Int32) (x3 : Int32), f_X11_flyRow_L2 n μ x1 x2 x3 = some r → J p l e (rmOf 5 115) s m args below meth c E A 5 Q (wX E h g μ) [some (.ref (h 0)), some (.int x1), some (.int x2), some (.int x3), none] 2 [] := by
    intro n
    induction n with
    | zero => intro μ x1 x2 x3 hf; cases (show none = some r from hf)
    | succ n ih =>
      intro μ x1 x2 x3 hf
      rw [f_X11_flyRow_L2] at hf
      refine j_iload_n X dX11_flyRow_2 rfl rfl ?_
      refine j_iload_n X dX11_flyRow_3 rfl rfl ?_
      refine j_icmp_ge (tgt := 67) X dX11_flyRow_4 (by decide) (fun c_4 => ?_) (fun c_4 => ?_)
      · replace hf := (if_pos c_4).symm.trans hf
        obtain rfl := Option.some.inj hf
        exact j_vret X hr hlk dX11_flyRow_67 hQ
      · replace hf := (if_neg c_4).symm.trans hf
        refine j_getsN X F k_683 dX11_flyRow_7 ?_
        refine j_iload_n X dX11_flyRow_10 rfl rfl ?_
        refine j_iconst (v := (1 : Int32)) X dX11_flyRow_11 (by decide) ?_
        refine j_isub X dX11_flyRow_12 ?_
        refine j_iload_n X dX11_flyRow_13 rfl rfl ?_
        refine j_isub X dX11_flyRow_14 ?_
        obtain ⟨c1, hf⟩ := oi_in hf
        refine j_tldN X F c1 dX11_flyRow_15 ?_
        obtain ⟨y2, e_y2, hf⟩ := bd_e hf
        refine j_top e_y2 ?_
        refine j_istore4 X dX11_flyRow_16 (by decide) rfl ?_
        refine j_iload_n X dX11_flyRow_18 rfl rfl ?_
        refine j_iload X dX11_flyRow_19 rfl ?_
        obtain ⟨c3, hf⟩ := oi_t hf
        refine j_irem X dX11_flyRow_21 c3 ?_
        refine j_if_ne (tgt := 61) X dX11_flyRow_22 (by decide) (fun c_22 => ?_) (fun c_22 => ?_)
        · replace hf := (if_neg c_22).symm.trans hf
          refine j_iinc3 (k := (1 : Int32)) X dX11_flyRow_61 (by decide) (by decide) rfl ?_
          refine j_goto (tgt := 2) X dX11_flyRow_64 (by decide) ?_
          refine j_keep [true, true, true, true, false] rfl ?_
          exact ih _ _ _ _ hf
        · replace hf := (if_pos c_22).symm.trans hf
          refine j_aload_n X dX11_flyRow_25 rfl rfl ?_
          refine j_get (C := RX11) (T := TX11) (N := 10) X iX11 0 (wX_0 ..) rfl 3 (by decide) k_313 rfl rfl dX11_flyRow_26 ?_
          refine j_iload_n X dX11_flyRow_29 rfl rfl ?_
          refine j_iconst (v := (1 : Int32)) X dX11_flyRow_30 (by decide) ?_
          refine j_iadd X dX11_flyRow_31 ?_
          by_cases n_32_0 : (x3 + (1 : Int32)) = (0 : Int32)
          · replace hf := (if_pos n_32_0).symm.trans hf
            refine j_aald3 X 65 (wX_65 ..) (b := h 41) (by rw [n_32_0]; unfold vp_in; decide) (by rw [n_32_0]; rfl) dX11_flyRow_32 ?_
            refine j_aload_n X dX11_flyRow_33 rfl rfl ?_
            refine j_get (C := RX11) (T := TX11) (N := 10) X iX11 0 (wX_0 ..) rfl 3 (by decide) k_313 rfl rfl dX11_flyRow_34 ?_
            refine j_iload_n X dX11_flyRow_37 rfl rfl ?_
            by_cases n_38_0 : x3 = (0 : Int32)
            · replace hf := (if_pos n_38_0).symm.trans hf
              refine j_aald3 X 65 (wX_65 ..) (b := h 41) (by rw [n_38_0]; unfold vp_in; decide) (by rw [n_38_0]; rfl) dX11_flyRow_38 ?_
              cases hf
            · replace hf := (if_neg n_38_0).symm.trans hf
              by_cases n_38_1 : x3 = (1 : Int32)
              · replace hf := (if_pos n_38_1).symm.trans hf
                refine j_aald3 X 65 (wX_65 ..) (b := h 47) (by rw [n_38_1]; unfold vp_in; decide) (by rw [n_38_1]; rfl) dX11_flyRow_38 ?_
                obtain ⟨q4, g_q4, hf⟩ := ob_t hf
                obtain ⟨μ5, e_μ5, hf⟩ := bd_e hf
                refine j_callV X [41, 42, 43, 44, 45, 46, 47, 48, 49, 50, 51, 52] 0 (c_X4_copyFrom E (fun j => h (List.getD [41, 42, 43, 44, 45, 46, 47, 48, 49, 50, 51, 52, 7, 11, 66, 7, 11, 66] j 0)) (fun j => g (List.getD [] j 0)) g_q4) (cut_wX_wRC_41_42_43_x44_45_46_47_48_49_50_51_52_7_11_66_7_11_66_c ..) rfl rfl (ws' := (wX E h g μ5)) (by rw [e_μ5]; exact cut_wX_wRC_41_42_43_x44_45_46_47_48_49_50_51_52_7_11_66_7_11_66_w ..) (wRC_0 ..) rfl k_638 k_639 k_640 k_78 k_641 (⟨rfl, rfl⟩) hdV_X4_copyFrom ⟨Nat.le_of_ble_eq_true rfl, Nat.le_of_ble_eq_true rfl⟩ rfl (Nat.le_of_ble_eq_true rfl) rfl dX11_flyRow_39 ?_
                refine j_aload_n X dX11_flyRow_42 rfl rfl ?_
                refine j_get (C := RX11) (T := TX11) (N := 10) X iX11 0 (wX_0 ..) rfl 3 (by decide) k_313 rfl rfl dX11_flyRow_43 ?_
                refine j_iload_n X dX11_flyRow_46 rfl rfl ?_
                refine j_iconst (v := (1 : Int32)) X dX11_flyRow_47 (by decide) ?_
                refine j_iadd X dX11_flyRow_48 ?_
                by_cases n_49_0 : (x3 + (1 : Int32)) = (0 : Int32)
                · replace hf := (if_pos n_49_0).symm.trans hf
                  refine j_aald3 X 65 (wX_65 ..) (b := h 41) (by rw [n_49_0]; unfold vp_in; decide) (by rw [n_49_0]; rfl) dX11_flyRow_49 ?_
                  refine j_iload_n X dX11_flyRow_50 rfl rfl ?_
                  refine j_iload X dX11_flyRow_51 rfl ?_
                  obtain ⟨c6, hf⟩ := oi_t hf
                  refine j_idiv X dX11_flyRow_53 c6 ?_
                  refine j_bipush (v := (9 : Int32)) X dX11_flyRow_54 (by decide) ?_
                  refine j_irem X dX11_flyRow_56 (by decide) ?_
                  obtain ⟨q7, g_q7, hf⟩ := ob_t hf
                  obtain ⟨μ8, e_μ8, hf⟩ := bd_e hf
                  refine j_callV X [41, 42, 43, 44, 45, 46, 7, 8, 9, 10, 11, 12, 13, 14, 66, 67, 68, 69, 70, 71, 72, 73] 0 (c_X4_flyAt E (fun j => h (List.getD [41, 42, 43, 44, 45, 46, 7, 8, 9, 10, 11, 12, 13, 14, 66, 67, 68, 69, 70, 71, 72, 73] j 0)) (fun j => g (List.getD [0, 1] j 0)) g_q7) (cut_wX_wR_41_42_43_c ..) rfl rfl (ws' := (wX E h g μ8)) (by rw [e_μ8]; exact cut_wX_wR_41_42_43_w ..) (wR_0 ..) rfl k_603 k_604 k_605 k_78 k_606 (⟨rfl, rfl⟩) hdV_X4_flyAt ⟨Nat.le_of_ble_eq_true rfl, Nat.le_of_ble_eq_true rfl⟩ rfl (Nat.le_of_ble_eq_true rfl) rfl dX11_flyRow_57 ?_
                  refine j_pop X dX11_flyRow_60 rfl ?_
                  refine j_iinc3 (k := (1 : Int32)) X dX11_flyRow_61 (by decide) (by decide) rfl ?_
                  refine j_goto (tgt := 2) X dX11_flyRow_64 (by decide) ?_
                  refine j_keep [true, true, true, true, false] rfl ?_
                  exact ih _ _ _ _ hf
                · replace hf := (if_neg n_49_0).symm.trans hf
                  by_cases n_49_1 : (x3 + (1 : Int32)) = (1 : Int32)
                  · replace hf := (if_pos n_49_1).symm.trans hf
                    refine j_aald3 X 65 (wX_65 ..) (b := h 47) (by rw [n_49_1]; unfold vp_in; decide) (by rw [n_49_1]; rfl) dX11_flyRow_49 ?_
                    refine j_iload_n X dX11_flyRow_50 rfl rfl ?_
                    refine j_iload X dX11_flyRow_51 rfl ?_
                    obtain ⟨c9, hf⟩ := oi_t hf
                    refine j_idiv X dX11_flyRow_53 c9 ?_
                    refine j_bipush (v := (9 : Int32)) X dX11_flyRow_54 (by decide) ?_
                    refine j_irem X dX11_flyRow_56 (by decide) ?_
                    obtain ⟨q10, g_q10, hf⟩ := ob_t hf
                    obtain ⟨μ11, e_μ11, hf⟩ := bd_e hf
                    refine j_callV X [47, 48, 49, 50, 51, 52, 7, 8, 9, 10, 11, 12, 13, 14, 66, 67, 68, 69, 70, 71, 72, 73] 0 (c_X4_flyAt E (fun j => h (List.getD [47, 48, 49, 50, 51, 52, 7, 8, 9, 10, 11, 12, 13, 14, 66, 67, 68, 69, 70, 71, 72, 73] j 0)) (fun j => g (List.getD [0, 1] j 0)) g_q10) (cut_wX_wR_47_48_49_c ..) rfl rfl (ws' := (wX E h g μ11)) (by rw [e_μ11]; exact cut_wX_wR_47_48_49_w ..) (wR_0 ..) rfl k_603 k_604 k_605 k_78 k_606 (⟨rfl, rfl⟩) hdV_X4_flyAt ⟨Nat.le_of_ble_eq_true rfl, Nat.le_of_ble_eq_true rfl⟩ rfl (Nat.le_of_ble_eq_true rfl) rfl dX11_flyRow_57 ?_
                    refine j_pop X dX11_flyRow_60 rfl ?_
                    refine j_iinc3 (k := (1 : Int32)) X dX11_flyRow_61 (by decide) (by decide) rfl ?_
                    refine j_goto (tgt := 2) X dX11_flyRow_64 (by decide) ?_
                    refine j_keep [true, true, true, true, false] rfl ?_
                    exact ih _ _ _ _ hf
                  · replace hf := (if_neg n_49_1).symm.trans hf
                    by_cases n_49_2 : (x3 + (1 : Int32)) = (2 : Int32)
                    · replace hf := (if_pos n_49_2).symm.trans hf
                      refine j_aald3 X 65 (wX_65 ..) (b := h 53) (by rw [n_49_2]; unfold vp_in; decide) (by rw [n_49_2]; rfl) dX11_flyRow_49 ?_
                      refine j_iload_n X dX11_flyRow_50 rfl rfl ?_
                      refine j_iload X dX11_flyRow_51 rfl ?_
                      obtain ⟨c12, hf⟩ := oi_t hf
                      refine j_idiv X dX11_flyRow_53 c12 ?_
                      refine j_bipush (v := (9 : Int32)) X dX11_flyRow_54 (by decide) ?_
                      refine j_irem X dX11_flyRow_56 (by decide) ?_
                      obtain ⟨q13, g_q13, hf⟩ := ob_t hf
                      obtain ⟨μ14, e_μ14, hf⟩ := bd_e hf
                      refine j_callV X [53, 54, 55, 56, 57, 58, 7, 8, 9, 10, 11, 12, 13, 14, 66, 67, 68, 69, 70, 71, 72, 73] 0 (c_X4_flyAt E (fun j => h (List.getD [53, 54, 55, 56, 57, 58, 7, 8, 9, 10, 11, 12, 13, 14, 66, 67, 68, 69, 70, 71, 72, 73] j 0)) (fun j => g (List.getD [0, 1] j 0)) g_q13) (cut_wX_wR_53_54_55_c ..) rfl rfl (ws' := (wX E h g μ14)) (by rw [e_μ14]; exact cut_wX_wR_53_54_55_w ..) (wR_0 ..) rfl k_603 k_604 k_605 k_78 k_606 (⟨rfl, rfl⟩) hdV_X4_flyAt ⟨Nat.le_of_ble_eq_true rfl, Nat.le_of_ble_eq_true rfl⟩ rfl (Nat.le_of_ble_eq_true rfl) rfl dX11_flyRow_57 ?_
                      refine j_pop X dX11_flyRow_60 rfl ?_
                      refine j_iinc3 (k := (1 : Int32)) X dX11_flyRow_61 (by decide) (by decide) rfl ?_
                      refine j_goto (tgt := 2) X dX11_flyRow_64 (by decide) ?_
                      refine j_keep [true, true, true, true, false] rfl ?_
                      exact ih _ _ _ _ hf
                    · replace hf := (if_neg n_49_2).symm.trans hf
                      by_cases n_49_3 : (x3 + (1 : Int32)) = (3 : Int32)
                      · replace hf := (if_pos n_49_3).symm.trans hf
                        refine j_aald3 X 65 (wX_65 ..) (b := h 59) (by rw [n_49_3]; unfold vp_in; decide) (by rw [n_49_3]; rfl) dX11_flyRow_49 ?_
                        refine j_iload_n X dX11_flyRow_50 rfl rfl ?_
                        refine j_iload X dX11_flyRow_51 rfl ?_
                        obtain ⟨c15, hf⟩ := oi_t hf
                        refine j_idiv X dX11_flyRow_53 c15 ?_
                        refine j_bipush (v := (9 : Int32)) X dX11_flyRow_54 (by decide) ?_
                        refine j_irem X dX11_flyRow_56 (by decide) ?_
                        obtain ⟨q16, g_q16, hf⟩ := ob_t hf
                        obtain ⟨μ17, e_μ17, hf⟩ := bd_e hf
                        refine j_callV X [59, 60, 61, 62, 63, 64, 7, 8, 9, 10, 11, 12, 13, 14, 66, 67, 68, 69, 70, 71, 72, 73] 0 (c_X4_flyAt E (fun j => h (List.getD [59, 60, 61, 62, 63, 64, 7, 8, 9, 10, 11, 12, 13, 14, 66, 67, 68, 69, 70, 71, 72, 73] j 0)) (fun j => g (List.getD [0, 1] j 0)) g_q16) (cut_wX_wR_59_60_61_c ..) rfl rfl (ws' := (wX E h g μ17)) (by rw [e_μ17]; exact cut_wX_wR_59_60_61_w ..) (wR_0 ..) rfl k_603 k_604 k_605 k_78 k_606 (⟨rfl, rfl⟩) hdV_X4_flyAt ⟨Nat.le_of_ble_eq_true rfl, Nat.le_of_ble_eq_true rfl⟩ rfl (Nat.le_of_ble_eq_true rfl) rfl dX11_flyRow_57 ?_
                        refine j_pop X dX11_flyRow_60 rfl ?_
                        refine j_iinc3 (k := (1 : Int32)) X dX11_flyRow_61 (by decide) (by decide) rfl ?_
                        refine j_goto (tgt := 2) X dX11_flyRow_64 (by decide) ?_
                        refine j_keep [true, true, true, true, false] rfl ?_
                        exact ih _ _ _ _ hf
                      · replace hf := (if_neg n_49_3).symm.trans hf
                        cases hf
              · replace hf := (if_neg n_38_1).symm.trans hf
                by_cases n_38_2 : x3 = (2 : Int32)
                · replace hf := (if_pos n_38_2).symm.trans hf
                  refine j_aald3 X 65 (wX_65 ..) (b := h 53) (by rw [n_38_2]; unfold vp_in; decide) (by rw [n_38_2]; rfl) dX11_flyRow_38 ?_
                  obtain ⟨q18, g_q18, hf⟩ := ob_t hf
                  obtain ⟨μ19, e_μ19, hf⟩ := bd_e hf
                  refine j_callV X [41, 42, 43, 44, 45, 46, 53, 54, 55, 56, 57, 58] 0 (c_X4_copyFrom E (fun j => h (List.getD [41, 42, 43, 44, 45, 46, 53, 54, 55, 56, 57, 58, 7, 11, 66, 7, 11, 66] j 0)) (fun j => g (List.getD [] j 0)) g_q18) (cut_wX_wRC_41_42_43_x44_45_46_53_54_55_56_57_58_7_11_66_7_11_66_c ..) rfl rfl (ws' := (wX E h g μ19)) (by rw [e_μ19]; exact cut_wX_wRC_41_42_43_x44_45_46_53_54_55_56_57_58_7_11_66_7_11_66_w ..) (wRC_0 ..) rfl k_638 k_639 k_640 k_78 k_641 (⟨rfl, rfl⟩) hdV_X4_copyFrom ⟨Nat.le_of_ble_eq_true rfl, Nat.le_of_ble_eq_true rfl⟩ rfl (Nat.le_of_ble_eq_true rfl) rfl dX11_flyRow_39 ?_
                  refine j_aload_n X dX11_flyRow_42 rfl rfl ?_
                  refine j_get (C := RX11) (T := TX11) (N := 10) X iX11 0 (wX_0 ..) rfl 3 (by decide) k_313 rfl rfl dX11_flyRow_43 ?_
                  refine j_iload_n X dX11_flyRow_46 rfl rfl ?_
                  refine j_iconst (v := (1 : Int32)) X dX11_flyRow_47 (by decide) ?_
                  refine j_iadd X dX11_flyRow_48 ?_
                  by_cases n_49_0 : (x3 + (1 : Int32)) = (0 : Int32)
                  · replace hf := (if_pos n_49_0).symm.trans hf
                    refine j_aald3 X 65 (wX_65 ..) (b := h 41) (by rw [n_49_0]; unfold vp_in; decide) (by rw [n_49_0]; rfl) dX11_flyRow_49 ?_
                    refine j_iload_n X dX11_flyRow_50 rfl rfl ?_
                    refine j_iload X dX11_flyRow_51 rfl ?_
                    obtain ⟨c20, hf⟩ := oi_t hf
                    refine j_idiv X dX11_flyRow_53 c20 ?_
                    refine j_bipush (v := (9 : Int32)) X dX11_flyRow_54 (by decide) ?_
                    refine j_irem X dX11_flyRow_56 (by decide) ?_
                    obtain ⟨q21, g_q21, hf⟩ := ob_t hf
                    obtain ⟨μ22, e_μ22, hf⟩ := bd_e hf
                    refine j_callV X [41, 42, 43, 44, 45, 46, 7, 8, 9, 10, 11, 12, 13, 14, 66, 67, 68, 69, 70, 71, 72, 73] 0 (c_X4_flyAt E (fun j => h (List.getD [41, 42, 43, 44, 45, 46, 7, 8, 9, 10, 11, 12, 13, 14, 66, 67, 68, 69, 70, 71, 72, 73] j 0)) (fun j => g (List.getD [0, 1] j 0)) g_q21) (cut_wX_wR_41_42_43_c ..) rfl rfl (ws' := (wX E h g μ22)) (by rw [e_μ22]; exact cut_wX_wR_41_42_43_w ..) (wR_0 ..) rfl k_603 k_604 k_605 k_78 k_606 (⟨rfl, rfl⟩) hdV_X4_flyAt ⟨Nat.le_of_ble_eq_true rfl, Nat.le_of_ble_eq_true rfl⟩ rfl (Nat.le_of_ble_eq_true rfl) rfl dX11_flyRow_57 ?_
                    refine j_pop X dX11_flyRow_60 rfl ?_
                    refine j_iinc3 (k := (1 : Int32)) X dX11_flyRow_61 (by decide) (by decide) rfl ?_
                    refine j_goto (tgt := 2) X dX11_flyRow_64 (by decide) ?_
                    refine j_keep [true, true, true, true, false] rfl ?_
                    exact ih _ _ _ _ hf
                  · replace hf := (if_neg n_49_0).symm.trans hf
                    by_cases n_49_1 : (x3 + (1 : Int32)) = (1 : Int32)
                    · replace hf := (if_pos n_49_1).symm.trans hf
                      refine j_aald3 X 65 (wX_65 ..) (b := h 47) (by rw [n_49_1]; unfold vp_in; decide) (by rw [n_49_1]; rfl) dX11_flyRow_49 ?_
                      refine j_iload_n X dX11_flyRow_50 rfl rfl ?_
                      refine j_iload X dX11_flyRow_51 rfl ?_
                      obtain ⟨c23, hf⟩ := oi_t hf
                      refine j_idiv X dX11_flyRow_53 c23 ?_
                      refine j_bipush (v := (9 : Int32)) X dX11_flyRow_54 (by decide) ?_
                      refine j_irem X dX11_flyRow_56 (by decide) ?_
                      obtain ⟨q24, g_q24, hf⟩ := ob_t hf
                      obtain ⟨μ25, e_μ25, hf⟩ := bd_e hf
                      refine j_callV X [47, 48, 49, 50, 51, 52, 7, 8, 9, 10, 11, 12, 13, 14, 66, 67, 68, 69, 70, 71, 72, 73] 0 (c_X4_flyAt E (fun j => h (List.getD [47, 48, 49, 50, 51, 52, 7, 8, 9, 10, 11, 12, 13, 14, 66, 67, 68, 69, 70, 71, 72, 73] j 0)) (fun j => g (List.getD [0, 1] j 0)) g_q24) (cut_wX_wR_47_48_49_c ..) rfl rfl (ws' := (wX E h g μ25)) (by rw [e_μ25]; exact cut_wX_wR_47_48_49_w ..) (wR_0 ..) rfl k_603 k_604 k_605 k_78 k_606 (⟨rfl, rfl⟩) hdV_X4_flyAt ⟨Nat.le_of_ble_eq_true rfl, Nat.le_of_ble_eq_true rfl⟩ rfl (Nat.le_of_ble_eq_true rfl) rfl dX11_flyRow_57 ?_
                      refine j_pop X dX11_flyRow_60 rfl ?_
                      refine j_iinc3 (k := (1 : Int32)) X dX11_flyRow_61 (by decide) (by decide) rfl ?_
                      refine j_goto (tgt := 2) X dX11_flyRow_64 (by decide) ?_
                      refine j_keep [true, true, true, true, false] rfl ?_
                      exact ih _ _ _ _ hf
                    · replace hf := (if_neg n_49_1).symm.trans hf
                      by_cases n_49_2 : (x3 + (1 : Int32)) = (2 : Int32)
                      · replace hf := (if_pos n_49_2).symm.trans hf
                        refine j_aald3 X 65 (wX_65 ..) (b := h 53) (by rw [n_49_2]; unfold vp_in; decide) (by rw [n_49_2]; rfl) dX11_flyRow_49 ?_
                        refine j_iload_n X dX11_flyRow_50 rfl rfl ?_
                        refine j_iload X dX11_flyRow_51 rfl ?_
                        obtain ⟨c26, hf⟩ := oi_t hf
                        refine j_idiv X dX11_flyRow_53 c26 ?_
                        refine j_bipush (v := (9 : Int32)) X dX11_flyRow_54 (by decide) ?_
                        refine j_irem X dX11_flyRow_56 (by decide) ?_
                        obtain ⟨q27, g_q27, hf⟩ := ob_t hf
                        obtain ⟨μ28, e_μ28, hf⟩ := bd_e hf
                        refine j_callV X [53, 54, 55, 56, 57, 58, 7, 8, 9, 10, 11, 12, 13, 14, 66, 67, 68, 69, 70, 71, 72, 73] 0 (c_X4_flyAt E (fun j => h (List.getD [53, 54, 55, 56, 57, 58, 7, 8, 9, 10, 11, 12, 13, 14, 66, 67, 68, 69, 70, 71, 72, 73] j 0)) (fun j => g (List.getD [0, 1] j 0)) g_q27) (cut_wX_wR_53_54_55_c ..) rfl rfl (ws' := (wX E h g μ28)) (by rw [e_μ28]; exact cut_wX_wR_53_54_55_w ..) (wR_0 ..) rfl k_603 k_604 k_605 k_78 k_606 (⟨rfl, rfl⟩) hdV_X4_flyAt ⟨Nat.le_of_ble_eq_true rfl, Nat.le_of_ble_eq_true rfl⟩ rfl (Nat.le_of_ble_eq_true rfl) rfl dX11_flyRow_57 ?_
                        refine j_pop X dX11_flyRow_60 rfl ?_
                        refine j_iinc3 (k := (1 : Int32)) X dX11_flyRow_61 (by decide) (by decide) rfl ?_
                        refine j_goto (tgt := 2) X dX11_flyRow_64 (by decide) ?_
                        refine j_keep [true, true, true, true, false] rfl ?_
                        exact ih _ _ _ _ hf
                      · replace hf := (if_neg n_49_2).symm.trans hf
                        by_cases n_49_3 : (x3 + (1 : Int32)) = (3 : Int32)
                        · replace hf := (if_pos n_49_3).symm.trans hf
                          refine j_aald3 X 65 (wX_65 ..) (b := h 59) (by rw [n_49_3]; unfold vp_in; decide) (by rw [n_49_3]; rfl) dX11_flyRow_49 ?_
                          refine j_iload_n X dX11_flyRow_50 rfl rfl ?_
                          refine j_iload X dX11_flyRow_51 rfl ?_
                          obtain ⟨c29, hf⟩ := oi_t hf
                          refine j_idiv X dX11_flyRow_53 c29 ?_
                          refine j_bipush (v := (9 : Int32)) X dX11_flyRow_54 (by decide) ?_
                          refine j_irem X dX11_flyRow_56 (by decide) ?_
                          obtain ⟨q30, g_q30, hf⟩ := ob_t hf
                          obtain ⟨μ31, e_μ31, hf⟩ := bd_e hf
                          refine j_callV X [59, 60, 61, 62, 63, 64, 7, 8, 9, 10, 11, 12, 13, 14, 66, 67, 68, 69, 70, 71, 72, 73] 0 (c_X4_flyAt E (fun j => h (List.getD [59, 60, 61, 62, 63, 64, 7, 8, 9, 10, 11, 12, 13, 14, 66, 67, 68, 69, 70, 71, 72, 73] j 0)) (fun j => g (List.getD [0, 1] j 0)) g_q30) (cut_wX_wR_59_60_61_c ..) rfl rfl (ws' := (wX E h g μ31)) (by rw [e_μ31]; exact cut_wX_wR_59_60_61_w ..) (wR_0 ..) rfl k_603 k_604 k_605 k_78 k_606 (⟨rfl, rfl⟩) hdV_X4_flyAt ⟨Nat.le_of_ble_eq_true rfl, Nat.le_of_ble_eq_true rfl⟩ rfl (Nat.le_of_ble_eq_true rfl) rfl dX11_flyRow_57 ?_
                          refine j_pop X dX11_flyRow_60 rfl ?_
                          refine j_iinc3 (k := (1 : Int32)) X dX11_flyRow_61 (by decide) (by decide) rfl ?_
                          refine j_goto (tgt := 2) X dX11_flyRow_64 (by decide) ?_
                          refine j_keep [true, true, true, true, false] rfl ?_
                          exact ih _ _ _ _ hf
                        · replace hf := (if_neg n_49_3).symm.trans hf
                          cases hf
                · replace hf := (if_neg n_38_2).symm.trans hf
                  by_cases n_38_3 : x3 = (3 : Int32)
                  · replace hf := (if_pos n_38_3).symm.trans hf
                    refine j_aald3 X 65 (wX_65 ..) (b := h 59) (by rw [n_38_3]; unfold vp_in; decide) (by rw [n_38_3]; rfl) dX11_flyRow_38 ?_
                    obtain ⟨q32, g_q32, hf⟩ := ob_t hf
                    obtain ⟨μ33, e_μ33, hf⟩ := bd_e hf
                    refine j_callV X [41, 42, 43, 44, 45, 46, 59, 60, 61, 62, 63, 64] 0 (c_X4_copyFrom E (fun j => h (List.getD [41, 42, 43, 44, 45, 46, 59, 60, 61, 62, 63, 64, 7, 11, 66, 7, 11, 66] j 0)) (fun j => g (List.getD [] j 0)) g_q32) (cut_wX_wRC_41_42_43_x44_45_46_59_60_61_62_63_64_7_11_66_7_11_66_c ..) rfl rfl (ws' := (wX E h g μ33)) (by rw [e_μ33]; exact cut_wX_wRC_41_42_43_x44_45_46_59_60_61_62_63_64_7_11_66_7_11_66_w ..) (wRC_0 ..) rfl k_638 k_639 k_640 k_78 k_641 (⟨rfl, rfl⟩) hdV_X4_copyFrom ⟨Nat.le_of_ble_eq_true rfl, Nat.le_of_ble_eq_true rfl⟩ rfl (Nat.le_of_ble_eq_true rfl) rfl dX11_flyRow_39 ?_
                    refine j_aload_n X dX11_flyRow_42 rfl rfl ?_
                    refine j_get (C := RX11) (T := TX11) (N := 10) X iX11 0 (wX_0 ..) rfl 3 (by decide) k_313 rfl rfl dX11_flyRow_43 ?_
                    refine j_iload_n X dX11_flyRow_46 rfl rfl ?_
                    refine j_iconst (v := (1 : Int32)) X dX11_flyRow_47 (by decide) ?_
                    refine j_iadd X dX11_flyRow_48 ?_
                    by_cases n_49_0 : (x3 + (1 : Int32)) = (0 : Int32)
                    · replace hf := (if_pos n_49_0).symm.trans hf
                      refine j_aald3 X 65 (wX_65 ..) (b := h 41) (by rw [n_49_0]; unfold vp_in; decide) (by rw [n_49_0]; rfl) dX11_flyRow_49 ?_
                      refine j_iload_n X dX11_flyRow_50 rfl rfl ?_
                      refine j_iload X dX11_flyRow_51 rfl ?_
                      obtain ⟨c34, hf⟩ := oi_t hf
                      refine j_idiv X dX11_flyRow_53 c34 ?_
                      refine j_bipush (v := (9 : Int32)) X dX11_flyRow_54 (by decide) ?_
                      refine j_irem X dX11_flyRow_56 (by decide) ?_
                      obtain ⟨q35, g_q35, hf⟩ := ob_t hf
                      obtain ⟨μ36, e_μ36, hf⟩ := bd_e hf
                      refine j_callV X [41, 42, 43, 44, 45, 46, 7, 8, 9, 10, 11, 12, 13, 14, 66, 67, 68, 69, 70, 71, 72, 73] 0 (c_X4_flyAt E (fun j => h (List.getD [41, 42, 43, 44, 45, 46, 7, 8, 9, 10, 11, 12, 13, 14, 66, 67, 68, 69, 70, 71, 72, 73] j 0)) (fun j => g (List.getD [0, 1] j 0)) g_q35) (cut_wX_wR_41_42_43_c ..) rfl rfl (ws' := (wX E h g μ36)) (by rw [e_μ36]; exact cut_wX_wR_41_42_43_w ..) (wR_0 ..) rfl k_603 k_604 k_605 k_78 k_606 (⟨rfl, rfl⟩) hdV_X4_flyAt ⟨Nat.le_of_ble_eq_true rfl, Nat.le_of_ble_eq_true rfl⟩ rfl (Nat.le_of_ble_eq_true rfl) rfl dX11_flyRow_57 ?_
                      refine j_pop X dX11_flyRow_60 rfl ?_
                      refine j_iinc3 (k := (1 : Int32)) X dX11_flyRow_61 (by decide) (by decide) rfl ?_
                      refine j_goto (tgt := 2) X dX11_flyRow_64 (by decide) ?_
                      refine j_keep [true, true, true, true, false] rfl ?_
                      exact ih _ _ _ _ hf
                    · replace hf := (if_neg n_49_0).symm.trans hf
                      by_cases n_49_1 : (x3 + (1 : Int32)) = (1 : Int32)
                      · replace hf := (if_pos n_49_1).symm.trans hf
                        refine j_aald3 X 65 (wX_65 ..) (b := h 47) (by rw [n_49_1]; unfold vp_in; decide) (by rw [n_49_1]; rfl) dX11_flyRow_49 ?_
                        refine j_iload_n X dX11_flyRow_50 rfl rfl ?_
                        refine j_iload X dX11_flyRow_51 rfl ?_
                        obtain ⟨c37, hf⟩ := oi_t hf
                        refine j_idiv X dX11_flyRow_53 c37 ?_
                        refine j_bipush (v := (9 : Int32)) X dX11_flyRow_54 (by decide) ?_
                        refine j_irem X dX11_flyRow_56 (by decide) ?_
                        obtain ⟨q38, g_q38, hf⟩ := ob_t hf
                        obtain ⟨μ39, e_μ39, hf⟩ := bd_e hf
                        refine j_callV X [47, 48, 49, 50, 51, 52, 7, 8, 9, 10, 11, 12, 13, 14, 66, 67, 68, 69, 70, 71, 72, 73] 0 (c_X4_flyAt E (fun j => h (List.getD [47, 48, 49, 50, 51, 52, 7, 8, 9, 10, 11, 12, 13, 14, 66, 67, 68, 69, 70, 71, 72, 73] j 0)) (fun j => g (List.getD [0, 1] j 0)) g_q38) (cut_wX_wR_47_48_49_c ..) rfl rfl (ws' := (wX E h g μ39)) (by rw [e_μ39]; exact cut_wX_wR_47_48_49_w ..) (wR_0 ..) rfl k_603 k_604 k_605 k_78 k_606 (⟨rfl, rfl⟩) hdV_X4_flyAt ⟨Nat.le_of_ble_eq_true rfl, Nat.le_of_ble_eq_true rfl⟩ rfl (Nat.le_of_ble_eq_true rfl) rfl dX11_flyRow_57 ?_
                        refine j_pop X dX11_flyRow_60 rfl ?_
                        refine j_iinc3 (k := (1 : Int32)) X dX11_flyRow_61 (by decide) (by decide) rfl ?_
                        refine j_goto (tgt := 2) X dX11_flyRow_64 (by decide) ?_
                        refine j_keep [true, true, true, true, false] rfl ?_
                        exact ih _ _ _ _ hf
                      · replace hf := (if_neg n_49_1).symm.trans hf
                        by_cases n_49_2 : (x3 + (1 : Int32)) = (2 : Int32)
                        · replace hf := (if_pos n_49_2).symm.trans hf
                          refine j_aald3 X 65 (wX_65 ..) (b := h 53) (by rw [n_49_2]; unfold vp_in; decide) (by rw [n_49_2]; rfl) dX11_flyRow_49 ?_
                          refine j_iload_n X dX11_flyRow_50 rfl rfl ?_
                          refine j_iload X dX11_flyRow_51 rfl ?_
                          obtain ⟨c40, hf⟩ := oi_t hf
                          refine j_idiv X dX11_flyRow_53 c40 ?_
                          refine j_bipush (v := (9 : Int32)) X dX11_flyRow_54 (by decide) ?_
                          refine j_irem X dX11_flyRow_56 (by decide) ?_
                          obtain ⟨q41, g_q41, hf⟩ := ob_t hf
                          obtain ⟨μ42, e_μ42, hf⟩ := bd_e hf
                          refine j_callV X [53, 54, 55, 56, 57, 58, 7, 8, 9, 10, 11, 12, 13, 14, 66, 67, 68, 69, 70, 71, 72, 73] 0 (c_X4_flyAt E (fun j => h (List.getD [53, 54, 55, 56, 57, 58, 7, 8, 9, 10, 11, 12, 13, 14, 66, 67, 68, 69, 70, 71, 72, 73] j 0)) (fun j => g (List.getD [0, 1] j 0)) g_q41) (cut_wX_wR_53_54_55_c ..) rfl rfl (ws' := (wX E h g μ42)) (by rw [e_μ42]; exact cut_wX_wR_53_54_55_w ..) (wR_0 ..) rfl k_603 k_604 k_605 k_78 k_606 (⟨rfl, rfl⟩) hdV_X4_flyAt ⟨Nat.le_of_ble_eq_true rfl, Nat.le_of_ble_eq_true rfl⟩ rfl (Nat.le_of_ble_eq_true rfl) rfl dX11_flyRow_57 ?_
                          refine j_pop X dX11_flyRow_60 rfl ?_
                          refine j_iinc3 (k := (1 : Int32)) X dX11_flyRow_61 (by decide) (by decide) rfl ?_
                          refine j_goto (tgt := 2) X dX11_flyRow_64 (by decide) ?_
                          refine j_keep [true, true, true, true, false] rfl ?_
                          exact ih _ _ _ _ hf
                        · replace hf := (if_neg n_49_2).symm.trans hf
                          by_cases n_49_3 : (x3 + (1 : Int32)) = (3 : Int32)
                          · replace hf := (if_pos n_49_3).symm.trans hf
                            refine j_aald3 X 65 (wX_65 ..) (b := h 59) (by rw [n_49_3]; unfold vp_in; decide) (by rw [n_49_3]; rfl) dX11_flyRow_49 ?_
                            refine j_iload_n X dX11_flyRow_50 rfl rfl ?_
                            refine j_iload X dX11_flyRow_51 rfl ?_
                            obtain ⟨c43, hf⟩ := oi_t hf
                            refine j_idiv X dX11_flyRow_53 c43 ?_
                            refine j_bipush (v := (9 : Int32)) X dX11_flyRow_54 (by decide) ?_
                            refine j_irem X dX11_flyRow_56 (by decide) ?_
                            obtain ⟨q44, g_q44, hf⟩ := ob_t hf
                            obtain ⟨μ45, e_μ45, hf⟩ := bd_e hf
                            refine j_callV X [59, 60, 61, 62, 63, 64, 7, 8, 9, 10, 11, 12, 13, 14, 66, 67, 68, 69, 70, 71, 72, 73] 0 (c_X4_flyAt E (fun j => h (List.getD [59, 60, 61, 62, 63, 64, 7, 8, 9, 10, 11, 12, 13, 14, 66, 67, 68, 69, 70, 71, 72, 73] j 0)) (fun j => g (List.getD [0, 1] j 0)) g_q44) (cut_wX_wR_59_60_61_c ..) rfl rfl (ws' := (wX E h g μ45)) (by rw [e_μ45]; exact cut_wX_wR_59_60_61_w ..) (wR_0 ..) rfl k_603 k_604 k_605 k_78 k_606 (⟨rfl, rfl⟩) hdV_X4_flyAt ⟨Nat.le_of_ble_eq_true rfl, Nat.le_of_ble_eq_true rfl⟩ rfl (Nat.le_of_ble_eq_true rfl) rfl dX11_flyRow_57 ?_
                            refine j_pop X dX11_flyRow_60 rfl ?_
                            refine j_iinc3 (k := (1 : Int32)) X dX11_flyRow_61 (by decide) (by decide) rfl ?_
                            refine j_goto (tgt := 2) X dX11_flyRow_64 (by decide) ?_
                            refine j_keep [true, true, true, true, false] rfl ?_
                            exact ih _ _ _ _ hf
                          · replace hf := (if_neg n_49_3).symm.trans hf
                            cases hf
                  · replace hf := (if_neg n_38_3).symm.trans hf
                    cases hf
          · replace hf := (if_neg n_32_0).symm.trans hf
            by_cases n_32_1 : (x3 + (1 : Int32)) = (1 : Int32)
            · replace hf := (if_pos n_32_1).symm.trans hf
              refine j_aald3 X 65 (wX_65 ..) (b := h 47) (by rw [n_32_1]; unfold vp_in; decide) (by rw [n_32_1]; rfl) dX11_flyRow_32 ?_
              refine j_aload_n X dX11_flyRow_33 rfl rfl ?_
              refine j_get (C := RX11) (T := TX11) (N := 10) X iX11 0 (wX_0 ..) rfl 3 (by decide) k_313 rfl rfl dX11_flyRow_34 ?_
              refine j_iload_n X dX11_flyRow_37 rfl rfl ?_
              by_cases n_38_0 : x3 = (0 : Int32)
              · replace hf := (if_pos n_38_0).symm.trans hf
                refine j_aald3 X 65 (wX_65 ..) (b := h 41) (by rw [n_38_0]; unfold vp_in; decide) (by rw [n_38_0]; rfl) dX11_flyRow_38 ?_
                obtain ⟨q46, g_q46, hf⟩ := ob_t hf
                obtain ⟨μ47, e_μ47, hf⟩ := bd_e hf
                refine j_callV X [47, 48, 49, 50, 51, 52, 41, 42, 43, 44, 45, 46] 0 (c_X4_copyFrom E (fun j => h (List.getD [47, 48, 49, 50, 51, 52, 41, 42, 43, 44, 45, 46, 7, 11, 66, 7, 11, 66] j 0)) (fun j => g (List.getD [] j 0)) g_q46) (cut_wX_wRC_47_48_49_c ..) rfl rfl (ws' := (wX E h g μ47)) (by rw [e_μ47]; exact cut_wX_wRC_47_48_49_w ..) (wRC_0 ..) rfl k_638 k_639 k_640 k_78 k_641 (⟨rfl, rfl⟩) hdV_X4_copyFrom ⟨Nat.le_of_ble_eq_true rfl, Nat.le_of_ble_eq_true rfl⟩ rfl (Nat.le_of_ble_eq_true rfl) rfl dX11_flyRow_39 ?_
                refine j_aload_n X dX11_flyRow_42 rfl rfl ?_
                refine j_get (C := RX11) (T := TX11) (N := 10) X iX11 0 (wX_0 ..) rfl 3 (by decide) k_313 rfl rfl dX11_flyRow_43 ?_
                refine j_iload_n X dX11_flyRow_46 rfl rfl ?_
                refine j_iconst (v := (1 : Int32)) X dX11_flyRow_47 (by decide) ?_
                refine j_iadd X dX11_flyRow_48 ?_
                by_cases n_49_0 : (x3 + (1 : Int32)) = (0 : Int32)
                · replace hf := (if_pos n_49_0).symm.trans hf
                  refine j_aald3 X 65 (wX_65 ..) (b := h 41) (by rw [n_49_0]; unfold vp_in; decide) (by rw [n_49_0]; rfl) dX11_flyRow_49 ?_
                  refine j_iload_n X dX11_flyRow_50 rfl rfl ?_
                  refine j_iload X dX11_flyRow_51 rfl ?_
                  obtain ⟨c48, hf⟩ := oi_t hf
                  refine j_idiv X dX11_flyRow_53 c48 ?_
                  refine j_bipush (v := (9 : Int32)) X dX11_flyRow_54 (by decide) ?_
                  refine j_irem X dX11_flyRow_56 (by decide) ?_
                  obtain ⟨q49, g_q49, hf⟩ := ob_t hf
                  obtain ⟨μ50, e_μ50, hf⟩ := bd_e hf
                  refine j_callV X [41, 42, 43, 44, 45, 46, 7, 8, 9, 10, 11, 12, 13, 14, 66, 67, 68, 69, 70, 71, 72, 73] 0 (c_X4_flyAt E (fun j => h (List.getD [41, 42, 43, 44, 45, 46, 7, 8, 9, 10, 11, 12, 13, 14, 66, 67, 68, 69, 70, 71, 72, 73] j 0)) (fun j => g (List.getD [0, 1] j 0)) g_q49) (cut_wX_wR_41_42_43_c ..) rfl rfl (ws' := (wX E h g μ50)) (by rw [e_μ50]; exact cut_wX_wR_41_42_43_w ..) (wR_0 ..) rfl k_603 k_604 k_605 k_78 k_606 (⟨rfl, rfl⟩) hdV_X4_flyAt ⟨Nat.le_of_ble_eq_true rfl, Nat.le_of_ble_eq_true rfl⟩ rfl (Nat.le_of_ble_eq_true rfl) rfl dX11_flyRow_57 ?_
                  refine j_pop X dX11_flyRow_60 rfl ?_
                  refine j_iinc3 (k := (1 : Int32)) X dX11_flyRow_61 (by decide) (by decide) rfl ?_
                  refine j_goto (tgt := 2) X dX11_flyRow_64 (by decide) ?_
                  refine j_keep [true, true, true, true, false] rfl ?_
                  exact ih _ _ _ _ hf
                · replace hf := (if_neg n_49_0).symm.trans hf
                  by_cases n_49_1 : (x3 + (1 : Int32)) = (1 : Int32)
                  · replace hf := (if_pos n_49_1).symm.trans hf
                    refine j_aald3 X 65 (wX_65 ..) (b := h 47) (by rw [n_49_1]; unfold vp_in; decide) (by rw [n_49_1]; rfl) dX11_flyRow_49 ?_
                    refine j_iload_n X dX11_flyRow_50 rfl rfl ?_
                    refine j_iload X dX11_flyRow_51 rfl ?_
                    obtain ⟨c51, hf⟩ := oi_t hf
                    refine j_idiv X dX11_flyRow_53 c51 ?_
                    refine j_bipush (v := (9 : Int32)) X dX11_flyRow_54 (by decide) ?_
                    refine j_irem X dX11_flyRow_56 (by decide) ?_
                    obtain ⟨q52, g_q52, hf⟩ := ob_t hf
                    obtain ⟨μ53, e_μ53, hf⟩ := bd_e hf
                    refine j_callV X [47, 48, 49, 50, 51, 52, 7, 8, 9, 10, 11, 12, 13, 14, 66, 67, 68, 69, 70, 71, 72, 73] 0 (c_X4_flyAt E (fun j => h (List.getD [47, 48, 49, 50, 51, 52, 7, 8, 9, 10, 11, 12, 13, 14, 66, 67, 68, 69, 70, 71, 72, 73] j 0)) (fun j => g (List.getD [0, 1] j 0)) g_q52) (cut_wX_wR_47_48_49_c ..) rfl rfl (ws' := (wX E h g μ53)) (by rw [e_μ53]; exact cut_wX_wR_47_48_49_w ..) (wR_0 ..) rfl k_603 k_604 k_605 k_78 k_606 (⟨rfl, rfl⟩) hdV_X4_flyAt ⟨Nat.le_of_ble_eq_true rfl, Nat.le_of_ble_eq_true rfl⟩ rfl (Nat.le_of_ble_eq_true rfl) rfl dX11_flyRow_57 ?_
                    refine j_pop X dX11_flyRow_60 rfl ?_
                    refine j_iinc3 (k := (1 : Int32)) X dX11_flyRow_61 (by decide) (by decide) rfl ?_
                    refine j_goto (tgt := 2) X dX11_flyRow_64 (by decide) ?_
                    refine j_keep [true, true, true, true, false] rfl ?_
                    exact ih _ _ _ _ hf
                  · replace hf := (if_neg n_49_1).symm.trans hf
                    by_cases n_49_2 : (x3 + (1 : Int32)) = (2 : Int32)
                    · replace hf := (if_pos n_49_2).symm.trans hf
                      refine j_aald3 X 65 (wX_65 ..) (b := h 53) (by rw [n_49_2]; unfold vp_in; decide) (by rw [n_49_2]; rfl) dX11_flyRow_49 ?_
                      refine j_iload_n X dX11_flyRow_50 rfl rfl ?_
                      refine j_iload X dX11_flyRow_51 rfl ?_
                      obtain ⟨c54, hf⟩ := oi_t hf
                      refine j_idiv X dX11_flyRow_53 c54 ?_
                      refine j_bipush (v := (9 : Int32)) X dX11_flyRow_54 (by decide) ?_
                      refine j_irem X dX11_flyRow_56 (by decide) ?_
                      obtain ⟨q55, g_q55, hf⟩ := ob_t hf
                      obtain ⟨μ56, e_μ56, hf⟩ := bd_e hf
                      refine j_callV X [53, 54, 55, 56, 57, 58, 7, 8, 9, 10, 11, 12, 13, 14, 66, 67, 68, 69, 70, 71, 72, 73] 0 (c_X4_flyAt E (fun j => h (List.getD [53, 54, 55, 56, 57, 58, 7, 8, 9, 10, 11, 12, 13, 14, 66, 67, 68, 69, 70, 71, 72, 73] j 0)) (fun j => g (List.getD [0, 1] j 0)) g_q55) (cut_wX_wR_53_54_55_c ..) rfl rfl (ws' := (wX E h g μ56)) (by rw [e_μ56]; exact cut_wX_wR_53_54_55_w ..) (wR_0 ..) rfl k_603 k_604 k_605 k_78 k_606 (⟨rfl, rfl⟩) hdV_X4_flyAt ⟨Nat.le_of_ble_eq_true rfl, Nat.le_of_ble_eq_true rfl⟩ rfl (Nat.le_of_ble_eq_true rfl) rfl dX11_flyRow_57 ?_
                      refine j_pop X dX11_flyRow_60 rfl ?_
                      refine j_iinc3 (k := (1 : Int32)) X dX11_flyRow_61 (by decide) (by decide) rfl ?_
                      refine j_goto (tgt := 2) X dX11_flyRow_64 (by decide) ?_
                      refine j_keep [true, true, true, true, false] rfl ?_
                      exact ih _ _ _ _ hf
                    · replace hf := (if_neg n_49_2).symm.trans hf
                      by_cases n_49_3 : (x3 + (1 : Int32)) = (3 : Int32)
                      · replace hf := (if_pos n_49_3).symm.trans hf
                        refine j_aald3 X 65 (wX_65 ..) (b := h 59) (by rw [n_49_3]; unfold vp_in; decide) (by rw [n_49_3]; rfl) dX11_flyRow_49 ?_
                        refine j_iload_n X dX11_flyRow_50 rfl rfl ?_
                        refine j_iload X dX11_flyRow_51 rfl ?_
                        obtain ⟨c57, hf⟩ := oi_t hf
                        refine j_idiv X dX11_flyRow_53 c57 ?_
                        refine j_bipush (v := (9 : Int32)) X dX11_flyRow_54 (by decide) ?_
                        refine j_irem X dX11_flyRow_56 (by decide) ?_
                        obtain ⟨q58, g_q58, hf⟩ := ob_t hf
                        obtain ⟨μ59, e_μ59, hf⟩ := bd_e hf
                        refine j_callV X [59, 60, 61, 62, 63, 64, 7, 8, 9, 10, 11, 12, 13, 14, 66, 67, 68, 69, 70, 71, 72, 73] 0 (c_X4_flyAt E (fun j => h (List.getD [59, 60, 61, 62, 63, 64, 7, 8, 9, 10, 11, 12, 13, 14, 66, 67, 68, 69, 70, 71, 72, 73] j 0)) (fun j => g (List.getD [0, 1] j 0)) g_q58) (cut_wX_wR_59_60_61_c ..) rfl rfl (ws' := (wX E h g μ59)) (by rw [e_μ59]; exact cut_wX_wR_59_60_61_w ..) (wR_0 ..) rfl k_603 k_604 k_605 k_78 k_606 (⟨rfl, rfl⟩) hdV_X4_flyAt ⟨Nat.le_of_ble_eq_true rfl, Nat.le_of_ble_eq_true rfl⟩ rfl (Nat.le_of_ble_eq_true rfl) rfl dX11_flyRow_57 ?_
                        refine j_pop X dX11_flyRow_60 rfl ?_
                        refine j_iinc3 (k := (1 : Int32)) X dX11_flyRow_61 (by decide) (by decide) rfl ?_
                        refine j_goto (tgt := 2) X dX11_flyRow_64 (by decide) ?_
                        refine j_keep [true, true, true, true, false] rfl ?_
                        exact ih _ _ _ _ hf
                      · replace hf := (if_neg n_49_3).symm.trans hf
                        cases hf
              · replace hf := (if_neg n_38_0).symm.trans hf
                by_cases n_38_1 : x3 = (1 : Int32)
                · replace hf := (if_pos n_38_1).symm.trans hf
                  refine j_aald3 X 65 (wX_65 ..) (b := h 47) (by rw [n_38_1]; unfold vp_in; decide) (by rw [n_38_1]; rfl) dX11_flyRow_38 ?_
                  cases hf
                · replace hf := (if_neg n_38_1).symm.trans hf
                  by_cases n_38_2 : x3 = (2 : Int32)
                  · replace hf := (if_pos n_38_2).symm.trans hf
                    refine j_aald3 X 65 (wX_65 ..) (b := h 53) (by rw [n_38_2]; unfold vp_in; decide) (by rw [n_38_2]; rfl) dX11_flyRow_38 ?_
                    obtain ⟨q60, g_q60, hf⟩ := ob_t hf
                    obtain ⟨μ61, e_μ61, hf⟩ := bd_e hf
                    refine j_callV X [47, 48, 49, 50, 51, 52, 53, 54, 55, 56, 57, 58] 0 (c_X4_copyFrom E (fun j => h (List.getD [47, 48, 49, 50, 51, 52, 53, 54, 55, 56, 57, 58, 7, 11, 66, 7, 11, 66] j 0)) (fun j => g (List.getD [] j 0)) g_q60) (cut_wX_wRC_47_48_49_x50_51_52_53_54_55_56_57_58_7_11_66_7_11_66_c ..) rfl rfl (ws' := (wX E h g μ61)) (by rw [e_μ61]; exact cut_wX_wRC_47_48_49_x50_51_52_53_54_55_56_57_58_7_11_66_7_11_66_w ..) (wRC_0 ..) rfl k_638 k_639 k_640 k_78 k_641 (⟨rfl, rfl⟩) hdV_X4_copyFrom ⟨Nat.le_of_ble_eq_true rfl, Nat.le_of_ble_eq_true rfl⟩ rfl (Nat.le_of_ble_eq_true rfl) rfl dX11_flyRow_39 ?_
                    refine j_aload_n X dX11_flyRow_42 rfl rfl ?_
                    refine j_get (C := RX11) (T := TX11) (N := 10) X iX11 0 (wX_0 ..) rfl 3 (by decide) k_313 rfl rfl dX11_flyRow_43 ?_
                    refine j_iload_n X dX11_flyRow_46 rfl rfl ?_
                    refine j_iconst (v := (1 : Int32)) X dX11_flyRow_47 (by decide) ?_
                    refine j_iadd X dX11_flyRow_48 ?_
                    by_cases n_49_0 : (x3 + (1 : Int32)) = (0 : Int32)
                    · replace hf := (if_pos n_49_0).symm.trans hf
                      refine j_aald3 X 65 (wX_65 ..) (b := h 41) (by rw [n_49_0]; unfold vp_in; decide) (by rw [n_49_0]; rfl) dX11_flyRow_49 ?_
                      refine j_iload_n X dX11_flyRow_50 rfl rfl ?_
                      refine j_iload X dX11_flyRow_51 rfl ?_
                      obtain ⟨c62, hf⟩ := oi_t hf
                      refine j_idiv X dX11_flyRow_53 c62 ?_
                      refine j_bipush (v := (9 : Int32)) X dX11_flyRow_54 (by decide) ?_
                      refine j_irem X dX11_flyRow_56 (by decide) ?_
                      obtain ⟨q63, g_q63, hf⟩ := ob_t hf
                      obtain ⟨μ64, e_μ64, hf⟩ := bd_e hf
                      refine j_callV X [41, 42, 43, 44, 45, 46, 7, 8, 9, 10, 11, 12, 13, 14, 66, 67, 68, 69, 70, 71, 72, 73] 0 (c_X4_flyAt E (fun j => h (List.getD [41, 42, 43, 44, 45, 46, 7, 8, 9, 10, 11, 12, 13, 14, 66, 67, 68, 69, 70, 71, 72, 73] j 0)) (fun j => g (List.getD [0, 1] j 0)) g_q63) (cut_wX_wR_41_42_43_c ..) rfl rfl (ws' := (wX E h g μ64)) (by rw [e_μ64]; exact cut_wX_wR_41_42_43_w ..) (wR_0 ..) rfl k_603 k_604 k_605 k_78 k_606 (⟨rfl, rfl⟩) hdV_X4_flyAt ⟨Nat.le_of_ble_eq_true rfl, Nat.le_of_ble_eq_true rfl⟩ rfl (Nat.le_of_ble_eq_true rfl) rfl dX11_flyRow_57 ?_
                      refine j_pop X dX11_flyRow_60 rfl ?_
                      refine j_iinc3 (k := (1 : Int32)) X dX11_flyRow_61 (by decide) (by decide) rfl ?_
                      refine j_goto (tgt := 2) X dX11_flyRow_64 (by decide) ?_
                      refine j_keep [true, true, true, true, false] rfl ?_
                      exact ih _ _ _ _ hf
                    · replace hf := (if_neg n_49_0).symm.trans hf
                      by_cases n_49_1 : (x3 + (1 : Int32)) = (1 : Int32)
                      · replace hf := (if_pos n_49_1).symm.trans hf
                        refine j_aald3 X 65 (wX_65 ..) (b := h 47) (by rw [n_49_1]; unfold vp_in; decide) (by rw [n_49_1]; rfl) dX11_flyRow_49 ?_
                        refine j_iload_n X dX11_flyRow_50 rfl rfl ?_
                        refine j_iload X dX11_flyRow_51 rfl ?_
                        obtain ⟨c65, hf⟩ := oi_t hf
                        refine j_idiv X dX11_flyRow_53 c65 ?_
                        refine j_bipush (v := (9 : Int32)) X dX11_flyRow_54 (by decide) ?_
                        refine j_irem X dX11_flyRow_56 (by decide) ?_
                        obtain ⟨q66, g_q66, hf⟩ := ob_t hf
                        obtain ⟨μ67, e_μ67, hf⟩ := bd_e hf
                        refine j_callV X [47, 48, 49, 50, 51, 52, 7, 8, 9, 10, 11, 12, 13, 14, 66, 67, 68, 69, 70, 71, 72, 73] 0 (c_X4_flyAt E (fun j => h (List.getD [47, 48, 49, 50, 51, 52, 7, 8, 9, 10, 11, 12, 13, 14, 66, 67, 68, 69, 70, 71, 72, 73] j 0)) (fun j => g (List.getD [0, 1] j 0)) g_q66) (cut_wX_wR_47_48_49_c ..) rfl rfl (ws' := (wX E h g μ67)) (by rw [e_μ67]; exact cut_wX_wR_47_48_49_w ..) (wR_0 ..) rfl k_603 k_604 k_605 k_78 k_606 (⟨rfl, rfl⟩) hdV_X4_flyAt ⟨Nat.le_of_ble_eq_true rfl, Nat.le_of_ble_eq_true rfl⟩ rfl (Nat.le_of_ble_eq_true rfl) rfl dX11_flyRow_57 ?_
                        refine j_pop X dX11_flyRow_60 rfl ?_
                        refine j_iinc3 (k := (1 : Int32)) X dX11_flyRow_61 (by decide) (by decide) rfl ?_
                        refine j_goto (tgt := 2) X dX11_flyRow_64 (by decide) ?_
                        refine j_keep [true, true, true, true, false] rfl ?_
                        exact ih _ _ _ _ hf
                      · replace hf := (if_neg n_49_1).symm.trans hf
                        by_cases n_49_2 : (x3 + (1 : Int32)) = (2 : Int32)
                        · replace hf := (if_pos n_49_2).symm.trans hf
                          refine j_aald3 X 65 (wX_65 ..) (b := h 53) (by rw [n_49_2]; unfold vp_in; decide) (by rw [n_49_2]; rfl) dX11_flyRow_49 ?_
                          refine j_iload_n X dX11_flyRow_50 rfl rfl ?_
                          refine j_iload X dX11_flyRow_51 rfl ?_
                          obtain ⟨c68, hf⟩ := oi_t hf
                          refine j_idiv X dX11_flyRow_53 c68 ?_
                          refine j_bipush (v := (9 : Int32)) X dX11_flyRow_54 (by decide) ?_
                          refine j_irem X dX11_flyRow_56 (by decide) ?_
                          obtain ⟨q69, g_q69, hf⟩ := ob_t hf
                          obtain ⟨μ70, e_μ70, hf⟩ := bd_e hf
                          refine j_callV X [53, 54, 55, 56, 57, 58, 7, 8, 9, 10, 11, 12, 13, 14, 66, 67, 68, 69, 70, 71, 72, 73] 0 (c_X4_flyAt E (fun j => h (List.getD [53, 54, 55, 56, 57, 58, 7, 8, 9, 10, 11, 12, 13, 14, 66, 67, 68, 69, 70, 71, 72, 73] j 0)) (fun j => g (List.getD [0, 1] j 0)) g_q69) (cut_wX_wR_53_54_55_c ..) rfl rfl (ws' := (wX E h g μ70)) (by rw [e_μ70]; exact cut_wX_wR_53_54_55_w ..) (wR_0 ..) rfl k_603 k_604 k_605 k_78 k_606 (⟨rfl, rfl⟩) hdV_X4_flyAt ⟨Nat.le_of_ble_eq_true rfl, Nat.le_of_ble_eq_true rfl⟩ rfl (Nat.le_of_ble_eq_true rfl) rfl dX11_flyRow_57 ?_
                          refine j_pop X dX11_flyRow_60 rfl ?_
                          refine j_iinc3 (k := (1 : Int32)) X dX11_flyRow_61 (by decide) (by decide) rfl ?_
                          refine j_goto (tgt := 2) X dX11_flyRow_64 (by decide) ?_
                          refine j_keep [true, true, true, true, false] rfl ?_
                          exact ih _ _ _ _ hf
                        · replace hf := (if_neg n_49_2).symm.trans hf
                          by_cases n_49_3 : (x3 + (1 : Int32)) = (3 : Int32)
                          · replace hf := (if_pos n_49_3).symm.trans hf
                            refine j_aald3 X 65 (wX_65 ..) (b := h 59) (by rw [n_49_3]; unfold vp_in; decide) (by rw [n_49_3]; rfl) dX11_flyRow_49 ?_
                            refine j_iload_n X dX11_flyRow_50 rfl rfl ?_
                            refine j_iload X dX11_flyRow_51 rfl ?_
                            obtain ⟨c71, hf⟩ := oi_t hf
                            refine j_idiv X dX11_flyRow_53 c71 ?_
                            refine j_bipush (v := (9 : Int32)) X dX11_flyRow_54 (by decide) ?_
                            refine j_irem X dX11_flyRow_56 (by decide) ?_
                            obtain ⟨q72, g_q72, hf⟩ := ob_t hf
                            obtain ⟨μ73, e_μ73, hf⟩ := bd_e hf
                            refine j_callV X [59, 60, 61, 62, 63, 64, 7, 8, 9, 10, 11, 12, 13, 14, 66, 67, 68, 69, 70, 71, 72, 73] 0 (c_X4_flyAt E (fun j => h (List.getD [59, 60, 61, 62, 63, 64, 7, 8, 9, 10, 11, 12, 13, 14, 66, 67, 68, 69, 70, 71, 72, 73] j 0)) (fun j => g (List.getD [0, 1] j 0)) g_q72) (cut_wX_wR_59_60_61_c ..) rfl rfl (ws' := (wX E h g μ73)) (by rw [e_μ73]; exact cut_wX_wR_59_60_61_w ..) (wR_0 ..) rfl k_603 k_604 k_605 k_78 k_606 (⟨rfl, rfl⟩) hdV_X4_flyAt ⟨Nat.le_of_ble_eq_true rfl, Nat.le_of_ble_eq_true rfl⟩ rfl (Nat.le_of_ble_eq_true rfl) rfl dX11_flyRow_57 ?_
                            refine j_pop X dX11_flyRow_60 rfl ?_
                            refine j_iinc3 (k := (1 : Int32)) X dX11_flyRow_61 (by decide) (by decide) rfl ?_
                            refine j_goto (tgt := 2) X dX11_flyRow_64 (by decide) ?_
                            refine j_keep [true, true, true, true, false] rfl ?_
                            exact ih _ _ _ _ hf
                          · replace hf := (if_neg n_49_3).symm.trans hf
                            cases hf
                  · replace hf := (if_neg n_38_2).symm.trans hf
                    by_cases n_38_3 : x3 = (3 : Int32)
                    · replace hf := (if_pos n_38_3).symm.trans hf
                      refine j_aald3 X 65 (wX_65 ..) (b := h 59) (by rw [n_38_3]; unfold vp_in; decide) (by rw [n_38_3]; rfl) dX11_flyRow_38 ?_
                      obtain ⟨q74, g_q74, hf⟩ := ob_t hf
                      obtain ⟨μ75, e_μ75, hf⟩ := bd_e hf
                      refine j_callV X [47, 48, 49, 50, 51, 52, 59, 60, 61, 62, 63, 64] 0 (c_X4_copyFrom E (fun j => h (List.getD [47, 48, 49, 50, 51, 52, 59, 60, 61, 62, 63, 64, 7, 11, 66, 7, 11, 66] j 0)) (fun j => g (List.getD [] j 0)) g_q74) (cut_wX_wRC_47_48_49_x50_51_52_59_60_61_62_63_64_7_11_66_7_11_66_c ..) rfl rfl (ws' := (wX E h g μ75)) (by rw [e_μ75]; exact cut_wX_wRC_47_48_49_x50_51_52_59_60_61_62_63_64_7_11_66_7_11_66_w ..) (wRC_0 ..) rfl k_638 k_639 k_640 k_78 k_641 (⟨rfl, rfl⟩) hdV_X4_copyFrom ⟨Nat.le_of_ble_eq_true rfl, Nat.le_of_ble_eq_true rfl⟩ rfl (Nat.le_of_ble_eq_true rfl) rfl dX11_flyRow_39 ?_
                      refine j_aload_n X dX11_flyRow_42 rfl rfl ?_
                      refine j_get (C := RX11) (T := TX11) (N := 10) X iX11 0 (wX_0 ..) rfl 3 (by decide) k_313 rfl rfl dX11_flyRow_43 ?_
                      refine j_iload_n X dX11_flyRow_46 rfl rfl ?_
                      refine j_iconst (v := (1 : Int32)) X dX11_flyRow_47 (by decide) ?_
                      refine j_iadd X dX11_flyRow_48 ?_
                      by_cases n_49_0 : (x3 + (1 : Int32)) = (0 : Int32)
                      · replace hf := (if_pos n_49_0).symm.trans hf
                        refine j_aald3 X 65 (wX_65 ..) (b := h 41) (by rw [n_49_0]; unfold vp_in; decide) (by rw [n_49_0]; rfl) dX11_flyRow_49 ?_
                        refine j_iload_n X dX11_flyRow_50 rfl rfl ?_
                        refine j_iload X dX11_flyRow_51 rfl ?_
                        obtain ⟨c76, hf⟩ := oi_t hf
                        refine j_idiv X dX11_flyRow_53 c76 ?_
                        refine j_bipush (v := (9 : Int32)) X dX11_flyRow_54 (by decide) ?_
                        refine j_irem X dX11_flyRow_56 (by decide) ?_
                        obtain ⟨q77, g_q77, hf⟩ := ob_t hf
                        obtain ⟨μ78, e_μ78, hf⟩ := bd_e hf
                        refine j_callV X [41, 42, 43, 44, 45, 46, 7, 8, 9, 10, 11, 12, 13, 14, 66, 67, 68, 69, 70, 71, 72, 73] 0 (c_X4_flyAt E (fun j => h (List.getD [41, 42, 43, 44, 45, 46, 7, 8, 9, 10, 11, 12, 13, 14, 66, 67, 68, 69, 70, 71, 72, 73] j 0)) (fun j => g (List.getD [0, 1] j 0)) g_q77) (cut_wX_wR_41_42_43_c ..) rfl rfl (ws' := (wX E h g μ78)) (by rw [e_μ78]; exact cut_wX_wR_41_42_43_w ..) (wR_0 ..) rfl k_603 k_604 k_605 k_78 k_606 (⟨rfl, rfl⟩) hdV_X4_flyAt ⟨Nat.le_of_ble_eq_true rfl, Nat.le_of_ble_eq_true rfl⟩ rfl (Nat.le_of_ble_eq_true rfl) rfl dX11_flyRow_57 ?_
                        refine j_pop X dX11_flyRow_60 rfl ?_
                        refine j_iinc3 (k := (1 : Int32)) X dX11_flyRow_61 (by decide) (by decide) rfl ?_
                        refine j_goto (tgt := 2) X dX11_flyRow_64 (by decide) ?_
                        refine j_keep [true, true, true, true, false] rfl ?_
                        exact ih _ _ _ _ hf
                      · replace hf := (if_neg n_49_0).symm.trans hf
                        by_cases n_49_1 : (x3 + (1 : Int32)) = (1 : Int32)
                        · replace hf := (if_pos n_49_1).symm.trans hf
                          refine j_aald3 X 65 (wX_65 ..) (b := h 47) (by rw [n_49_1]; unfold vp_in; decide) (by rw [n_49_1]; rfl) dX11_flyRow_49 ?_
                          refine j_iload_n X dX11_flyRow_50 rfl rfl ?_
                          refine j_iload X dX11_flyRow_51 rfl ?_
                          obtain ⟨c79, hf⟩ := oi_t hf
                          refine j_idiv X dX11_flyRow_53 c79 ?_
                          refine j_bipush (v := (9 : Int32)) X dX11_flyRow_54 (by decide) ?_
                          refine j_irem X dX11_flyRow_56 (by decide) ?_
                          obtain ⟨q80, g_q80, hf⟩ := ob_t hf
                          obtain ⟨μ81, e_μ81, hf⟩ := bd_e hf
                          refine j_callV X [47, 48, 49, 50, 51, 52, 7, 8, 9, 10, 11, 12, 13, 14, 66, 67, 68, 69, 70, 71, 72, 73] 0 (c_X4_flyAt E (fun j => h (List.getD [47, 48, 49, 50, 51, 52, 7, 8, 9, 10, 11, 12, 13, 14, 66, 67, 68, 69, 70, 71, 72, 73] j 0)) (fun j => g (List.getD [0, 1] j 0)) g_q80) (cut_wX_wR_47_48_49_c ..) rfl rfl (ws' := (wX E h g μ81)) (by rw [e_μ81]; exact cut_wX_wR_47_48_49_w ..) (wR_0 ..) rfl k_603 k_604 k_605 k_78 k_606 (⟨rfl, rfl⟩) hdV_X4_flyAt ⟨Nat.le_of_ble_eq_true rfl, Nat.le_of_ble_eq_true rfl⟩ rfl (Nat.le_of_ble_eq_true rfl) rfl dX11_flyRow_57 ?_
                          refine j_pop X dX11_flyRow_60 rfl ?_
                          refine j_iinc3 (k := (1 : Int32)) X dX11_flyRow_61 (by decide) (by decide) rfl ?_
                          refine j_goto (tgt := 2) X dX11_flyRow_64 (by decide) ?_
                          refine j_keep [true, true, true, true, false] rfl ?_
                          exact ih _ _ _ _ hf
                        · replace hf := (if_neg n_49_1).symm.trans hf
                          by_cases n_49_2 : (x3 + (1 : Int32)) = (2 : Int32)
                          · replace hf := (if_pos n_49_2).symm.trans hf
                            refine j_aald3 X 65 (wX_65 ..) (b := h 53) (by rw [n_49_2]; unfold vp_in; decide) (by rw [n_49_2]; rfl) dX11_flyRow_49 ?_
                            refine j_iload_n X dX11_flyRow_50 rfl rfl ?_
                            refine j_iload X dX11_flyRow_51 rfl ?_
                            obtain ⟨c82, hf⟩ := oi_t hf
                            refine j_idiv X dX11_flyRow_53 c82 ?_
                            refine j_bipush (v := (9 : Int32)) X dX11_flyRow_54 (by decide) ?_
                            refine j_irem X dX11_flyRow_56 (by decide) ?_
                            obtain ⟨q83, g_q83, hf⟩ := ob_t hf
                            obtain ⟨μ84, e_μ84, hf⟩ := bd_e hf
                            refine j_callV X [53, 54, 55, 56, 57, 58, 7, 8, 9, 10, 11, 12, 13, 14, 66, 67, 68, 69, 70, 71, 72, 73] 0 (c_X4_flyAt E (fun j => h (List.getD [53, 54, 55, 56, 57, 58, 7, 8, 9, 10, 11, 12, 13, 14, 66, 67, 68, 69, 70, 71, 72, 73] j 0)) (fun j => g (List.getD [0, 1] j 0)) g_q83) (cut_wX_wR_53_54_55_c ..) rfl rfl (ws' := (wX E h g μ84)) (by rw [e_μ84]; exact cut_wX_wR_53_54_55_w ..) (wR_0 ..) rfl k_603 k_604 k_605 k_78 k_606 (⟨rfl, rfl⟩) hdV_X4_flyAt ⟨Nat.le_of_ble_eq_true rfl, Nat.le_of_ble_eq_true rfl⟩ rfl (Nat.le_of_ble_eq_true rfl) rfl dX11_flyRow_57 ?_
                            refine j_pop X dX11_flyRow_60 rfl ?_
                            refine j_iinc3 (k := (1 : Int32)) X dX11_flyRow_61 (by decide) (by decide) rfl ?_
                            refine j_goto (tgt := 2) X dX11_flyRow_64 (by decide) ?_
                            refine j_keep [true, true, true, true, false] rfl ?_
                            exact ih _ _ _ _ hf
                          · replace hf := (if_neg n_49_2).symm.trans hf
                            by_cases n_49_3 : (x3 + (1 : Int32)) = (3 : Int32)
                            · replace hf := (if_pos n_49_3).symm.trans hf
                              refine j_aald3 X 65 (wX_65 ..) (b := h 59) (by rw [n_49_3]; unfold vp_in; decide) (by rw [n_49_3]; rfl) dX11_flyRow_49 ?_
                              refine j_iload_n X dX11_flyRow_50 rfl rfl ?_
                              refine j_iload X dX11_flyRow_51 rfl ?_
                              obtain ⟨c85, hf⟩ := oi_t hf
                              refine j_idiv X dX11_flyRow_53 c85 ?_
                              refine j_bipush (v := (9 : Int32)) X dX11_flyRow_54 (by decide) ?_
                              refine j_irem X dX11_flyRow_56 (by decide) ?_
                              obtain ⟨q86, g_q86, hf⟩ := ob_t hf
                              obtain ⟨μ87, e_μ87, hf⟩ := bd_e hf
                              refine j_callV X [59, 60, 61, 62, 63, 64, 7, 8, 9, 10, 11, 12, 13, 14, 66, 67, 68, 69, 70, 71, 72, 73] 0 (c_X4_flyAt E (fun j => h (List.getD [59, 60, 61, 62, 63, 64, 7, 8, 9, 10, 11, 12, 13, 14, 66, 67, 68, 69, 70, 71, 72, 73] j 0)) (fun j => g (List.getD [0, 1] j 0)) g_q86) (cut_wX_wR_59_60_61_c ..) rfl rfl (ws' := (wX E h g μ87)) (by rw [e_μ87]; exact cut_wX_wR_59_60_61_w ..) (wR_0 ..) rfl k_603 k_604 k_605 k_78 k_606 (⟨rfl, rfl⟩) hdV_X4_flyAt ⟨Nat.le_of_ble_eq_true rfl, Nat.le_of_ble_eq_true rfl⟩ rfl (Nat.le_of_ble_eq_true rfl) rfl dX11_flyRow_57 ?_
                              refine j_pop X dX11_flyRow_60 rfl ?_
                              refine j_iinc3 (k := (1 : Int32)) X dX11_flyRow_61 (by decide) (by decide) rfl ?_
                              refine j_goto (tgt := 2) X dX11_flyRow_64 (by decide) ?_
                              refine j_keep [true, true, true, true, false] rfl ?_
                              exact ih _ _ _ _ hf
                            · replace hf := (if_neg n_49_3).symm.trans hf
                              cases hf
                    · replace hf := (if_neg n_38_3).symm.trans hf
                      cases hf
            · replace hf := (if_neg n_32_1).symm.trans hf
              by_cases n_32_2 : (x3 + (1 : Int32)) = (2 : Int32)
              · replace hf := (if_pos n_32_2).symm.trans hf
                refine j_aald3 X 65 (wX_65 ..) (b := h 53) (by rw [n_32_2]; unfold vp_in; decide) (by rw [n_32_2]; rfl) dX11_flyRow_32 ?_
                refine j_aload_n X dX11_flyRow_33 rfl rfl ?_
                refine j_get (C := RX11) (T := TX11) (N := 10) X iX11 0 (wX_0 ..) rfl 3 (by decide) k_313 rfl rfl dX11_flyRow_34 ?_
                refine j_iload_n X dX11_flyRow_37 rfl rfl ?_
                by_cases n_38_0 : x3 = (0 : Int32)
                · replace hf := (if_pos n_38_0).symm.trans hf
                  refine j_aald3 X 65 (wX_65 ..) (b := h 41) (by rw [n_38_0]; unfold vp_in; decide) (by rw [n_38_0]; rfl) dX11_flyRow_38 ?_
                  obtain ⟨q88, g_q88, hf⟩ := ob_t hf
                  obtain ⟨μ89, e_μ89, hf⟩ := bd_e hf
                  refine j_callV X [53, 54, 55, 56, 57, 58, 41, 42, 43, 44, 45, 46] 0 (c_X4_copyFrom E (fun j => h (List.getD [53, 54, 55, 56, 57, 58, 41, 42, 43, 44, 45, 46, 7, 11, 66, 7, 11, 66] j 0)) (fun j => g (List.getD [] j 0)) g_q88) (cut_wX_wRC_53_54_55_c ..) rfl rfl (ws' := (wX E h g μ89)) (by rw [e_μ89]; exact cut_wX_wRC_53_54_55_w ..) (wRC_0 ..) rfl k_638 k_639 k_640 k_78 k_641 (⟨rfl, rfl⟩) hdV_X4_copyFrom ⟨Nat.le_of_ble_eq_true rfl, Nat.le_of_ble_eq_true rfl⟩ rfl (Nat.le_of_ble_eq_true rfl) rfl dX11_flyRow_39 ?_
                  refine j_aload_n X dX11_flyRow_42 rfl rfl ?_
                  refine j_get (C := RX11) (T := TX11) (N := 10) X iX11 0 (wX_0 ..) rfl 3 (by decide) k_313 rfl rfl dX11_flyRow_43 ?_
                  refine j_iload_n X dX11_flyRow_46 rfl rfl ?_
                  refine j_iconst (v := (1 : Int32)) X dX11_flyRow_47 (by decide) ?_
                  refine j_iadd X dX11_flyRow_48 ?_
                  by_cases n_49_0 : (x3 + (1 : Int32)) = (0 : Int32)
                  · replace hf := (if_pos n_49_0).symm.trans hf
                    refine j_aald3 X 65 (wX_65 ..) (b := h 41) (by rw [n_49_0]; unfold vp_in; decide) (by rw [n_49_0]; rfl) dX11_flyRow_49 ?_
                    refine j_iload_n X dX11_flyRow_50 rfl rfl ?_
                    refine j_iload X dX11_flyRow_51 rfl ?_
                    obtain ⟨c90, hf⟩ := oi_t hf
                    refine j_idiv X dX11_flyRow_53 c90 ?_
                    refine j_bipush (v := (9 : Int32)) X dX11_flyRow_54 (by decide) ?_
                    refine j_irem X dX11_flyRow_56 (by decide) ?_
                    obtain ⟨q91, g_q91, hf⟩ := ob_t hf
                    obtain ⟨μ92, e_μ92, hf⟩ := bd_e hf
                    refine j_callV X [41, 42, 43, 44, 45, 46, 7, 8, 9, 10, 11, 12, 13, 14, 66, 67, 68, 69, 70, 71, 72, 73] 0 (c_X4_flyAt E (fun j => h (List.getD [41, 42, 43, 44, 45, 46, 7, 8, 9, 10, 11, 12, 13, 14, 66, 67, 68, 69, 70, 71, 72, 73] j 0)) (fun j => g (List.getD [0, 1] j 0)) g_q91) (cut_wX_wR_41_42_43_c ..) rfl rfl (ws' := (wX E h g μ92)) (by rw [e_μ92]; exact cut_wX_wR_41_42_43_w ..) (wR_0 ..) rfl k_603 k_604 k_605 k_78 k_606 (⟨rfl, rfl⟩) hdV_X4_flyAt ⟨Nat.le_of_ble_eq_true rfl, Nat.le_of_ble_eq_true rfl⟩ rfl (Nat.le_of_ble_eq_true rfl) rfl dX11_flyRow_57 ?_
                    refine j_pop X dX11_flyRow_60 rfl ?_
                    refine j_iinc3 (k := (1 : Int32)) X dX11_flyRow_61 (by decide) (by decide) rfl ?_
                    refine j_goto (tgt := 2) X dX11_flyRow_64 (by decide) ?_
                    refine j_keep [true, true, true, true, false] rfl ?_
                    exact ih _ _ _ _ hf
                  · replace hf := (if_neg n_49_0).symm.trans hf
                    by_cases n_49_1 : (x3 + (1 : Int32)) = (1 : Int32)
                    · replace hf := (if_pos n_49_1).symm.trans hf
                      refine j_aald3 X 65 (wX_65 ..) (b := h 47) (by rw [n_49_1]; unfold vp_in; decide) (by rw [n_49_1]; rfl) dX11_flyRow_49 ?_
                      refine j_iload_n X dX11_flyRow_50 rfl rfl ?_
                      refine j_iload X dX11_flyRow_51 rfl ?_
                      obtain ⟨c93, hf⟩ := oi_t hf
                      refine j_idiv X dX11_flyRow_53 c93 ?_
                      refine j_bipush (v := (9 : Int32)) X dX11_flyRow_54 (by decide) ?_
                      refine j_irem X dX11_flyRow_56 (by decide) ?_
                      obtain ⟨q94, g_q94, hf⟩ := ob_t hf
                      obtain ⟨μ95, e_μ95, hf⟩ := bd_e hf
                      refine j_callV X [47, 48, 49, 50, 51, 52, 7, 8, 9, 10, 11, 12, 13, 14, 66, 67, 68, 69, 70, 71, 72, 73] 0 (c_X4_flyAt E (fun j => h (List.getD [47, 48, 49, 50, 51, 52, 7, 8, 9, 10, 11, 12, 13, 14, 66, 67, 68, 69, 70, 71, 72, 73] j 0)) (fun j => g (List.getD [0, 1] j 0)) g_q94) (cut_wX_wR_47_48_49_c ..) rfl rfl (ws' := (wX E h g μ95)) (by rw [e_μ95]; exact cut_wX_wR_47_48_49_w ..) (wR_0 ..) rfl k_603 k_604 k_605 k_78 k_606 (⟨rfl, rfl⟩) hdV_X4_flyAt ⟨Nat.le_of_ble_eq_true rfl, Nat.le_of_ble_eq_true rfl⟩ rfl (Nat.le_of_ble_eq_true rfl) rfl dX11_flyRow_57 ?_
                      refine j_pop X dX11_flyRow_60 rfl ?_
                      refine j_iinc3 (k := (1 : Int32)) X dX11_flyRow_61 (by decide) (by decide) rfl ?_
                      refine j_goto (tgt := 2) X dX11_flyRow_64 (by decide) ?_
                      refine j_keep [true, true, true, true, false] rfl ?_
                      exact ih _ _ _ _ hf
                    · replace hf := (if_neg n_49_1).symm.trans hf
                      by_cases n_49_2 : (x3 + (1 : Int32)) = (2 : Int32)
                      · replace hf := (if_pos n_49_2).symm.trans hf
                        refine j_aald3 X 65 (wX_65 ..) (b := h 53) (by rw [n_49_2]; unfold vp_in; decide) (by rw [n_49_2]; rfl) dX11_flyRow_49 ?_
                        refine j_iload_n X dX11_flyRow_50 rfl rfl ?_
                        refine j_iload X dX11_flyRow_51 rfl ?_
                        obtain ⟨c96, hf⟩ := oi_t hf
                        refine j_idiv X dX11_flyRow_53 c96 ?_
                        refine j_bipush (v := (9 : Int32)) X dX11_flyRow_54 (by decide) ?_
                        refine j_irem X dX11_flyRow_56 (by decide) ?_
                        obtain ⟨q97, g_q97, hf⟩ := ob_t hf
                        obtain ⟨μ98, e_μ98, hf⟩ := bd_e hf
                        refine j_callV X [53, 54, 55, 56, 57, 58, 7, 8, 9, 10, 11, 12, 13, 14, 66, 67, 68, 69, 70, 71, 72, 73] 0 (c_X4_flyAt E (fun j => h (List.getD [53, 54, 55, 56, 57, 58, 7, 8, 9, 10, 11, 12, 13, 14, 66, 67, 68, 69, 70, 71, 72, 73] j 0)) (fun j => g (List.getD [0, 1] j 0)) g_q97) (cut_wX_wR_53_54_55_c ..) rfl rfl (ws' := (wX E h g μ98)) (by rw [e_μ98]; exact cut_wX_wR_53_54_55_w ..) (wR_0 ..) rfl k_603 k_604 k_605 k_78 k_606 (⟨rfl, rfl⟩) hdV_X4_flyAt ⟨Nat.le_of_ble_eq_true rfl, Nat.le_of_ble_eq_true rfl⟩ rfl (Nat.le_of_ble_eq_true rfl) rfl dX11_flyRow_57 ?_
                        refine j_pop X dX11_flyRow_60 rfl ?_
                        refine j_iinc3 (k := (1 : Int32)) X dX11_flyRow_61 (by decide) (by decide) rfl ?_
                        refine j_goto (tgt := 2) X dX11_flyRow_64 (by decide) ?_
                        refine j_keep [true, true, true, true, false] rfl ?_
                        exact ih _ _ _ _ hf
                      · replace hf := (if_neg n_49_2).symm.trans hf
                        by_cases n_49_3 : (x3 + (1 : Int32)) = (3 : Int32)
                        · replace hf := (if_pos n_49_3).symm.trans hf
                          refine j_aald3 X 65 (wX_65 ..) (b := h 59) (by rw [n_49_3]; unfold vp_in; decide) (by rw [n_49_3]; rfl) dX11_flyRow_49 ?_
                          refine j_iload_n X dX11_flyRow_50 rfl rfl ?_
                          refine j_iload X dX11_flyRow_51 rfl ?_
                          obtain ⟨c99, hf⟩ := oi_t hf
                          refine j_idiv X dX11_flyRow_53 c99 ?_
                          refine j_bipush (v := (9 : Int32)) X dX11_flyRow_54 (by decide) ?_
                          refine j_irem X dX11_flyRow_56 (by decide) ?_
                          obtain ⟨q100, g_q100, hf⟩ := ob_t hf
                          obtain ⟨μ101, e_μ101, hf⟩ := bd_e hf
                          refine j_callV X [59, 60, 61, 62, 63, 64, 7, 8, 9, 10, 11, 12, 13, 14, 66, 67, 68, 69, 70, 71, 72, 73] 0 (c_X4_flyAt E (fun j => h (List.getD [59, 60, 61, 62, 63, 64, 7, 8, 9, 10, 11, 12, 13, 14, 66, 67, 68, 69, 70, 71, 72, 73] j 0)) (fun j => g (List.getD [0, 1] j 0)) g_q100) (cut_wX_wR_59_60_61_c ..) rfl rfl (ws' := (wX E h g μ101)) (by rw [e_μ101]; exact cut_wX_wR_59_60_61_w ..) (wR_0 ..) rfl k_603 k_604 k_605 k_78 k_606 (⟨rfl, rfl⟩) hdV_X4_flyAt ⟨Nat.le_of_ble_eq_true rfl, Nat.le_of_ble_eq_true rfl⟩ rfl (Nat.le_of_ble_eq_true rfl) rfl dX11_flyRow_57 ?_
                          refine j_pop X dX11_flyRow_60 rfl ?_
                          refine j_iinc3 (k := (1 : Int32)) X dX11_flyRow_61 (by decide) (by decide) rfl ?_
                          refine j_goto (tgt := 2) X dX11_flyRow_64 (by decide) ?_
                          refine j_keep [true, true, true, true, false] rfl ?_
                          exact ih _ _ _ _ hf
                        · replace hf := (if_neg n_49_3).symm.trans hf
                          cases hf
                · replace hf := (if_neg n_38_0).symm.trans hf
                  by_cases n_38_1 : x3 = (1 : Int32)
                  · replace hf := (if_pos n_38_1).symm.trans hf
                    refine j_aald3 X 65 (wX_65 ..) (b := h 47) (by rw [n_38_1]; unfold vp_in; decide) (by rw [n_38_1]; rfl) dX11_flyRow_38 ?_
                    obtain ⟨q102, g_q102, hf⟩ := ob_t hf
                    obtain ⟨μ103, e_μ103, hf⟩ := bd_e hf
                    refine j_callV X [53, 54, 55, 56, 57, 58, 47, 48, 49, 50, 51, 52] 0 (c_X4_copyFrom E (fun j => h (List.getD [53, 54, 55, 56, 57, 58, 47, 48, 49, 50, 51, 52, 7, 11, 66, 7, 11, 66] j 0)) (fun j => g (List.getD [] j 0)) g_q102) (cut_wX_wRC_53_54_55_x56_57_58_47_48_49_50_51_52_7_11_66_7_11_66_c ..) rfl rfl (ws' := (wX E h g μ103)) (by rw [e_μ103]; exact cut_wX_wRC_53_54_55_x56_57_58_47_48_49_50_51_52_7_11_66_7_11_66_w ..) (wRC_0 ..) rfl k_638 k_639 k_640 k_78 k_641 (⟨rfl, rfl⟩) hdV_X4_copyFrom ⟨Nat.le_of_ble_eq_true rfl, Nat.le_of_ble_eq_true rfl⟩ rfl (Nat.le_of_ble_eq_true rfl) rfl dX11_flyRow_39 ?_
                    refine j_aload_n X dX11_flyRow_42 rfl rfl ?_
                    refine j_get (C := RX11) (T := TX11) (N := 10) X iX11 0 (wX_0 ..) rfl 3 (by decide) k_313 rfl rfl dX11_flyRow_43 ?_
                    refine j_iload_n X dX11_flyRow_46 rfl rfl ?_
                    refine j_iconst (v := (1 : Int32)) X dX11_flyRow_47 (by decide) ?_
                    refine j_iadd X dX11_flyRow_48 ?_
                    by_cases n_49_0 : (x3 + (1 : Int32)) = (0 : Int32)
                    · replace hf := (if_pos n_49_0).symm.trans hf
                      refine j_aald3 X 65 (wX_65 ..) (b := h 41) (by rw [n_49_0]; unfold vp_in; decide) (by rw [n_49_0]; rfl) dX11_flyRow_49 ?_
                      refine j_iload_n X dX11_flyRow_50 rfl rfl ?_
                      refine j_iload X dX11_flyRow_51 rfl ?_
                      obtain ⟨c104, hf⟩ := oi_t hf
                      refine j_idiv X dX11_flyRow_53 c104 ?_
                      refine j_bipush (v := (9 : Int32)) X dX11_flyRow_54 (by decide) ?_
                      refine j_irem X dX11_flyRow_56 (by decide) ?_
                      obtain ⟨q105, g_q105, hf⟩ := ob_t hf
                      obtain ⟨μ106, e_μ106, hf⟩ := bd_e hf
                      refine j_callV X [41, 42, 43, 44, 45, 46, 7, 8, 9, 10, 11, 12, 13, 14, 66, 67, 68, 69, 70, 71, 72, 73] 0 (c_X4_flyAt E (fun j => h (List.getD [41, 42, 43, 44, 45, 46, 7, 8, 9, 10, 11, 12, 13, 14, 66, 67, 68, 69, 70, 71, 72, 73] j 0)) (fun j => g (List.getD [0, 1] j 0)) g_q105) (cut_wX_wR_41_42_43_c ..) rfl rfl (ws' := (wX E h g μ106)) (by rw [e_μ106]; exact cut_wX_wR_41_42_43_w ..) (wR_0 ..) rfl k_603 k_604 k_605 k_78 k_606 (⟨rfl, rfl⟩) hdV_X4_flyAt ⟨Nat.le_of_ble_eq_true rfl, Nat.le_of_ble_eq_true rfl⟩ rfl (Nat.le_of_ble_eq_true rfl) rfl dX11_flyRow_57 ?_
                      refine j_pop X dX11_flyRow_60 rfl ?_
                      refine j_iinc3 (k := (1 : Int32)) X dX11_flyRow_61 (by decide) (by decide) rfl ?_
                      refine j_goto (tgt := 2) X dX11_flyRow_64 (by decide) ?_
                      refine j_keep [true, true, true, true, false] rfl ?_
                      exact ih _ _ _ _ hf
                    · replace hf := (if_neg n_49_0).symm.trans hf
                      by_cases n_49_1 : (x3 + (1 : Int32)) = (1 : Int32)
                      · replace hf := (if_pos n_49_1).symm.trans hf
                        refine j_aald3 X 65 (wX_65 ..) (b := h 47) (by rw [n_49_1]; unfold vp_in; decide) (by rw [n_49_1]; rfl) dX11_flyRow_49 ?_
                        refine j_iload_n X dX11_flyRow_50 rfl rfl ?_
                        refine j_iload X dX11_flyRow_51 rfl ?_
                        obtain ⟨c107, hf⟩ := oi_t hf
                        refine j_idiv X dX11_flyRow_53 c107 ?_
                        refine j_bipush (v := (9 : Int32)) X dX11_flyRow_54 (by decide) ?_
                        refine j_irem X dX11_flyRow_56 (by decide) ?_
                        obtain ⟨q108, g_q108, hf⟩ := ob_t hf
                        obtain ⟨μ109, e_μ109, hf⟩ := bd_e hf
                        refine j_callV X [47, 48, 49, 50, 51, 52, 7, 8, 9, 10, 11, 12, 13, 14, 66, 67, 68, 69, 70, 71, 72, 73] 0 (c_X4_flyAt E (fun j => h (List.getD [47, 48, 49, 50, 51, 52, 7, 8, 9, 10, 11, 12, 13, 14, 66, 67, 68, 69, 70, 71, 72, 73] j 0)) (fun j => g (List.getD [0, 1] j 0)) g_q108) (cut_wX_wR_47_48_49_c ..) rfl rfl (ws' := (wX E h g μ109)) (by rw [e_μ109]; exact cut_wX_wR_47_48_49_w ..) (wR_0 ..) rfl k_603 k_604 k_605 k_78 k_606 (⟨rfl, rfl⟩) hdV_X4_flyAt ⟨Nat.le_of_ble_eq_true rfl, Nat.le_of_ble_eq_true rfl⟩ rfl (Nat.le_of_ble_eq_true rfl) rfl dX11_flyRow_57 ?_
                        refine j_pop X dX11_flyRow_60 rfl ?_
                        refine j_iinc3 (k := (1 : Int32)) X dX11_flyRow_61 (by decide) (by decide) rfl ?_
                        refine j_goto (tgt := 2) X dX11_flyRow_64 (by decide) ?_
                        refine j_keep [true, true, true, true, false] rfl ?_
                        exact ih _ _ _ _ hf
                      · replace hf := (if_neg n_49_1).symm.trans hf
                        by_cases n_49_2 : (x3 + (1 : Int32)) = (2 : Int32)
                        · replace hf := (if_pos n_49_2).symm.trans hf
                          refine j_aald3 X 65 (wX_65 ..) (b := h 53) (by rw [n_49_2]; unfold vp_in; decide) (by rw [n_49_2]; rfl) dX11_flyRow_49 ?_
                          refine j_iload_n X dX11_flyRow_50 rfl rfl ?_
                          refine j_iload X dX11_flyRow_51 rfl ?_
                          obtain ⟨c110, hf⟩ := oi_t hf
                          refine j_idiv X dX11_flyRow_53 c110 ?_
                          refine j_bipush (v := (9 : Int32)) X dX11_flyRow_54 (by decide) ?_
                          refine j_irem X dX11_flyRow_56 (by decide) ?_
                          obtain ⟨q111, g_q111, hf⟩ := ob_t hf
                          obtain ⟨μ112, e_μ112, hf⟩ := bd_e hf
                          refine j_callV X [53, 54, 55, 56, 57, 58, 7, 8, 9, 10, 11, 12, 13, 14, 66, 67, 68, 69, 70, 71, 72, 73] 0 (c_X4_flyAt E (fun j => h (List.getD [53, 54, 55, 56, 57, 58, 7, 8, 9, 10, 11, 12, 13, 14, 66, 67, 68, 69, 70, 71, 72, 73] j 0)) (fun j => g (List.getD [0, 1] j 0)) g_q111) (cut_wX_wR_53_54_55_c ..) rfl rfl (ws' := (wX E h g μ112)) (by rw [e_μ112]; exact cut_wX_wR_53_54_55_w ..) (wR_0 ..) rfl k_603 k_604 k_605 k_78 k_606 (⟨rfl, rfl⟩) hdV_X4_flyAt ⟨Nat.le_of_ble_eq_true rfl, Nat.le_of_ble_eq_true rfl⟩ rfl (Nat.le_of_ble_eq_true rfl) rfl dX11_flyRow_57 ?_
                          refine j_pop X dX11_flyRow_60 rfl ?_
                          refine j_iinc3 (k := (1 : Int32)) X dX11_flyRow_61 (by decide) (by decide) rfl ?_
                          refine j_goto (tgt := 2) X dX11_flyRow_64 (by decide) ?_
                          refine j_keep [true, true, true, true, false] rfl ?_
                          exact ih _ _ _ _ hf
                        · replace hf := (if_neg n_49_2).symm.trans hf
                          by_cases n_49_3 : (x3 + (1 : Int32)) = (3 : Int32)
                          · replace hf := (if_pos n_49_3).symm.trans hf
                            refine j_aald3 X 65 (wX_65 ..) (b := h 59) (by rw [n_49_3]; unfold vp_in; decide) (by rw [n_49_3]; rfl) dX11_flyRow_49 ?_
                            refine j_iload_n X dX11_flyRow_50 rfl rfl ?_
                            refine j_iload X dX11_flyRow_51 rfl ?_
                            obtain ⟨c113, hf⟩ := oi_t hf
                            refine j_idiv X dX11_flyRow_53 c113 ?_
                            refine j_bipush (v := (9 : Int32)) X dX11_flyRow_54 (by decide) ?_
                            refine j_irem X dX11_flyRow_56 (by decide) ?_
                            obtain ⟨q114, g_q114, hf⟩ := ob_t hf
                            obtain ⟨μ115, e_μ115, hf⟩ := bd_e hf
                            refine j_callV X [59, 60, 61, 62, 63, 64, 7, 8, 9, 10, 11, 12, 13, 14, 66, 67, 68, 69, 70, 71, 72, 73] 0 (c_X4_flyAt E (fun j => h (List.getD [59, 60, 61, 62, 63, 64, 7, 8, 9, 10, 11, 12, 13, 14, 66, 67, 68, 69, 70, 71, 72, 73] j 0)) (fun j => g (List.getD [0, 1] j 0)) g_q114) (cut_wX_wR_59_60_61_c ..) rfl rfl (ws' := (wX E h g μ115)) (by rw [e_μ115]; exact cut_wX_wR_59_60_61_w ..) (wR_0 ..) rfl k_603 k_604 k_605 k_78 k_606 (⟨rfl, rfl⟩) hdV_X4_flyAt ⟨Nat.le_of_ble_eq_true rfl, Nat.le_of_ble_eq_true rfl⟩ rfl (Nat.le_of_ble_eq_true rfl) rfl dX11_flyRow_57 ?_
                            refine j_pop X dX11_flyRow_60 rfl ?_
                            refine j_iinc3 (k := (1 : Int32)) X dX11_flyRow_61 (by decide) (by decide) rfl ?_
                            refine j_goto (tgt := 2) X dX11_flyRow_64 (by decide) ?_
                            refine j_keep [true, true, true, true, false] rfl ?_
                            exact ih _ _ _ _ hf
                          · replace hf := (if_neg n_49_3).symm.trans hf
                            cases hf
                  · replace hf := (if_neg n_38_1).symm.trans hf
                    by_cases n_38_2 : x3 = (2 : Int32)
                    · replace hf := (if_pos n_38_2).symm.trans hf
                      refine j_aald3 X 65 (wX_65 ..) (b := h 53) (by rw [n_38_2]; unfold vp_in; decide) (by rw [n_38_2]; rfl) dX11_flyRow_38 ?_
                      cases hf
                    · replace hf := (if_neg n_38_2).symm.trans hf
                      by_cases n_38_3 : x3 = (3 : Int32)
                      · replace hf := (if_pos n_38_3).symm.trans hf
                        refine j_aald3 X 65 (wX_65 ..) (b := h 59) (by rw [n_38_3]; unfold vp_in; decide) (by rw [n_38_3]; rfl) dX11_flyRow_38 ?_
                        obtain ⟨q116, g_q116, hf⟩ := ob_t hf
                        obtain ⟨μ117, e_μ117, hf⟩ := bd_e hf
                        refine j_callV X [53, 54, 55, 56, 57, 58, 59, 60, 61, 62, 63, 64] 0 (c_X4_copyFrom E (fun j => h (List.getD [53, 54, 55, 56, 57, 58, 59, 60, 61, 62, 63, 64, 7, 11, 66, 7, 11, 66] j 0)) (fun j => g (List.getD [] j 0)) g_q116) (cut_wX_wRC_53_54_55_x56_57_58_59_60_61_62_63_64_7_11_66_7_11_66_c ..) rfl rfl (ws' := (wX E h g μ117)) (by rw [e_μ117]; exact cut_wX_wRC_53_54_55_x56_57_58_59_60_61_62_63_64_7_11_66_7_11_66_w ..) (wRC_0 ..) rfl k_638 k_639 k_640 k_78 k_641 (⟨rfl, rfl⟩) hdV_X4_copyFrom ⟨Nat.le_of_ble_eq_true rfl, Nat.le_of_ble_eq_true rfl⟩ rfl (Nat.le_of_ble_eq_true rfl) rfl dX11_flyRow_39 ?_
                        refine j_aload_n X dX11_flyRow_42 rfl rfl ?_
                        refine j_get (C := RX11) (T := TX11) (N := 10) X iX11 0 (wX_0 ..) rfl 3 (by decide) k_313 rfl rfl dX11_flyRow_43 ?_
                        refine j_iload_n X dX11_flyRow_46 rfl rfl ?_
                        refine j_iconst (v := (1 : Int32)) X dX11_flyRow_47 (by decide) ?_
                        refine j_iadd X dX11_flyRow_48 ?_
                        by_cases n_49_0 : (x3 + (1 : Int32)) = (0 : Int32)
                        · replace hf := (if_pos n_49_0).symm.trans hf
                          refine j_aald3 X 65 (wX_65 ..) (b := h 41) (by rw [n_49_0]; unfold vp_in; decide) (by rw [n_49_0]; rfl) dX11_flyRow_49 ?_
                          refine j_iload_n X dX11_flyRow_50 rfl rfl ?_
                          refine j_iload X dX11_flyRow_51 rfl ?_
                          obtain ⟨c118, hf⟩ := oi_t hf
                          refine j_idiv X dX11_flyRow_53 c118 ?_
                          refine j_bipush (v := (9 : Int32)) X dX11_flyRow_54 (by decide) ?_
                          refine j_irem X dX11_flyRow_56 (by decide) ?_
                          obtain ⟨q119, g_q119, hf⟩ := ob_t hf
                          obtain ⟨μ120, e_μ120, hf⟩ := bd_e hf
                          refine j_callV X [41, 42, 43, 44, 45, 46, 7, 8, 9, 10, 11, 12, 13, 14, 66, 67, 68, 69, 70, 71, 72, 73] 0 (c_X4_flyAt E (fun j => h (List.getD [41, 42, 43, 44, 45, 46, 7, 8, 9, 10, 11, 12, 13, 14, 66, 67, 68, 69, 70, 71, 72, 73] j 0)) (fun j => g (List.getD [0, 1] j 0)) g_q119) (cut_wX_wR_41_42_43_c ..) rfl rfl (ws' := (wX E h g μ120)) (by rw [e_μ120]; exact cut_wX_wR_41_42_43_w ..) (wR_0 ..) rfl k_603 k_604 k_605 k_78 k_606 (⟨rfl, rfl⟩) hdV_X4_flyAt ⟨Nat.le_of_ble_eq_true rfl, Nat.le_of_ble_eq_true rfl⟩ rfl (Nat.le_of_ble_eq_true rfl) rfl dX11_flyRow_57 ?_
                          refine j_pop X dX11_flyRow_60 rfl ?_
                          refine j_iinc3 (k := (1 : Int32)) X dX11_flyRow_61 (by decide) (by decide) rfl ?_
                          refine j_goto (tgt := 2) X dX11_flyRow_64 (by decide) ?_
                          refine j_keep [true, true, true, true, false] rfl ?_
                          exact ih _ _ _ _ hf
                        · replace hf := (if_neg n_49_0).symm.trans hf
                          by_cases n_49_1 : (x3 + (1 : Int32)) = (1 : Int32)
                          · replace hf := (if_pos n_49_1).symm.trans hf
                            refine j_aald3 X 65 (wX_65 ..) (b := h 47) (by rw [n_49_1]; unfold vp_in; decide) (by rw [n_49_1]; rfl) dX11_flyRow_49 ?_
                            refine j_iload_n X dX11_flyRow_50 rfl rfl ?_
                            refine j_iload X dX11_flyRow_51 rfl ?_
                            obtain ⟨c121, hf⟩ := oi_t hf
                            refine j_idiv X dX11_flyRow_53 c121 ?_
                            refine j_bipush (v := (9 : Int32)) X dX11_flyRow_54 (by decide) ?_
                            refine j_irem X dX11_flyRow_56 (by decide) ?_
                            obtain ⟨q122, g_q122, hf⟩ := ob_t hf
                            obtain ⟨μ123, e_μ123, hf⟩ := bd_e hf
                            refine j_callV X [47, 48, 49, 50, 51, 52, 7, 8, 9, 10, 11, 12, 13, 14, 66, 67, 68, 69, 70, 71, 72, 73] 0 (c_X4_flyAt E (fun j => h (List.getD [47, 48, 49, 50, 51, 52, 7, 8, 9, 10, 11, 12, 13, 14, 66, 67, 68, 69, 70, 71, 72, 73] j 0)) (fun j => g (List.getD [0, 1] j 0)) g_q122) (cut_wX_wR_47_48_49_c ..) rfl rfl (ws' := (wX E h g μ123)) (by rw [e_μ123]; exact cut_wX_wR_47_48_49_w ..) (wR_0 ..) rfl k_603 k_604 k_605 k_78 k_606 (⟨rfl, rfl⟩) hdV_X4_flyAt ⟨Nat.le_of_ble_eq_true rfl, Nat.le_of_ble_eq_true rfl⟩ rfl (Nat.le_of_ble_eq_true rfl) rfl dX11_flyRow_57 ?_
                            refine j_pop X dX11_flyRow_60 rfl ?_
                            refine j_iinc3 (k := (1 : Int32)) X dX11_flyRow_61 (by decide) (by decide) rfl ?_
                            refine j_goto (tgt := 2) X dX11_flyRow_64 (by decide) ?_
                            refine j_keep [true, true, true, true, false] rfl ?_
                            exact ih _ _ _ _ hf
                          · replace hf := (if_neg n_49_1).symm.trans hf
                            by_cases n_49_2 : (x3 + (1 : Int32)) = (2 : Int32)
                            · replace hf := (if_pos n_49_2).symm.trans hf
                              refine j_aald3 X 65 (wX_65 ..) (b := h 53) (by rw [n_49_2]; unfold vp_in; decide) (by rw [n_49_2]; rfl) dX11_flyRow_49 ?_
                              refine j_iload_n X dX11_flyRow_50 rfl rfl ?_
                              refine j_iload X dX11_flyRow_51 rfl ?_
                              obtain ⟨c124, hf⟩ := oi_t hf
                              refine j_idiv X dX11_flyRow_53 c124 ?_
                              refine j_bipush (v := (9 : Int32)) X dX11_flyRow_54 (by decide) ?_
                              refine j_irem X dX11_flyRow_56 (by decide) ?_
                              obtain ⟨q125, g_q125, hf⟩ := ob_t hf
                              obtain ⟨μ126, e_μ126, hf⟩ := bd_e hf
                              refine j_callV X [53, 54, 55, 56, 57, 58, 7, 8, 9, 10, 11, 12, 13, 14, 66, 67, 68, 69, 70, 71, 72, 73] 0 (c_X4_flyAt E (fun j => h (List.getD [53, 54, 55, 56, 57, 58, 7, 8, 9, 10, 11, 12, 13, 14, 66, 67, 68, 69, 70, 71, 72, 73] j 0)) (fun j => g (List.getD [0, 1] j 0)) g_q125) (cut_wX_wR_53_54_55_c ..) rfl rfl (ws' := (wX E h g μ126)) (by rw [e_μ126]; exact cut_wX_wR_53_54_55_w ..) (wR_0 ..) rfl k_603 k_604 k_605 k_78 k_606 (⟨rfl, rfl⟩) hdV_X4_flyAt ⟨Nat.le_of_ble_eq_true rfl, Nat.le_of_ble_eq_true rfl⟩ rfl (Nat.le_of_ble_eq_true rfl) rfl dX11_flyRow_57 ?_
                              refine j_pop X dX11_flyRow_60 rfl ?_
                              refine j_iinc3 (k := (1 : Int32)) X dX11_flyRow_61 (by decide) (by decide) rfl ?_
                              refine j_goto (tgt := 2) X dX11_flyRow_64 (by decide) ?_
                              refine j_keep [true, true, true, true, false] rfl ?_
                              exact ih _ _ _ _ hf
                            · replace hf := (if_neg n_49_2).symm.trans hf
                              by_cases n_49_3 : (x3 + (1 : Int32)) = (3 : Int32)
                              · replace hf := (if_pos n_49_3).symm.trans hf
                                refine j_aald3 X 65 (wX_65 ..) (b := h 59) (by rw [n_49_3]; unfold vp_in; decide) (by rw [n_49_3]; rfl) dX11_flyRow_49 ?_
                                refine j_iload_n X dX11_flyRow_50 rfl rfl ?_
                                refine j_iload X dX11_flyRow_51 rfl ?_
                                obtain ⟨c127, hf⟩ := oi_t hf
                                refine j_idiv X dX11_flyRow_53 c127 ?_
                                refine j_bipush (v := (9 : Int32)) X dX11_flyRow_54 (by decide) ?_
                                refine j_irem X dX11_flyRow_56 (by decide) ?_
                                obtain ⟨q128, g_q128, hf⟩ := ob_t hf
                                obtain ⟨μ129, e_μ129, hf⟩ := bd_e hf
                                refine j_callV X [59, 60, 61, 62, 63, 64, 7, 8, 9, 10, 11, 12, 13, 14, 66, 67, 68, 69, 70, 71, 72, 73] 0 (c_X4_flyAt E (fun j => h (List.getD [59, 60, 61, 62, 63, 64, 7, 8, 9, 10, 11, 12, 13, 14, 66, 67, 68, 69, 70, 71, 72, 73] j 0)) (fun j => g (List.getD [0, 1] j 0)) g_q128) (cut_wX_wR_59_60_61_c ..) rfl rfl (ws' := (wX E h g μ129)) (by rw [e_μ129]; exact cut_wX_wR_59_60_61_w ..) (wR_0 ..) rfl k_603 k_604 k_605 k_78 k_606 (⟨rfl, rfl⟩) hdV_X4_flyAt ⟨Nat.le_of_ble_eq_true rfl, Nat.le_of_ble_eq_true rfl⟩ rfl (Nat.le_of_ble_eq_true rfl) rfl dX11_flyRow_57 ?_
                                refine j_pop X dX11_flyRow_60 rfl ?_
                                refine j_iinc3 (k := (1 : Int32)) X dX11_flyRow_61 (by decide) (by decide) rfl ?_
                                refine j_goto (tgt := 2) X dX11_flyRow_64 (by decide) ?_
                                refine j_keep [true, true, true, true, false] rfl ?_
                                exact ih _ _ _ _ hf
                              · replace hf := (if_neg n_49_3).symm.trans hf
                                cases hf
                      · replace hf := (if_neg n_38_3).symm.trans hf
                        cases hf
              · replace hf := (if_neg n_32_2).symm.trans hf
                by_cases n_32_3 : (x3 + (1 : Int32)) = (3 : Int32)
                · replace hf := (if_pos n_32_3).symm.trans hf
                  refine j_aald3 X 65 (wX_65 ..) (b := h 59) (by rw [n_32_3]; unfold vp_in; decide) (by rw [n_32_3]; rfl) dX11_flyRow_32 ?_
                  refine j_aload_n X dX11_flyRow_33 rfl rfl ?_
                  refine j_get (C := RX11) (T := TX11) (N := 10) X iX11 0 (wX_0 ..) rfl 3 (by decide) k_313 rfl rfl dX11_flyRow_34 ?_
                  refine j_iload_n X dX11_flyRow_37 rfl rfl ?_
                  by_cases n_38_0 : x3 = (0 : Int32)
                  · replace hf := (if_pos n_38_0).symm.trans hf
                    refine j_aald3 X 65 (wX_65 ..) (b := h 41) (by rw [n_38_0]; unfold vp_in; decide) (by rw [n_38_0]; rfl) dX11_flyRow_38 ?_
                    obtain ⟨q130, g_q130, hf⟩ := ob_t hf
                    obtain ⟨μ131, e_μ131, hf⟩ := bd_e hf
                    refine j_callV X [59, 60, 61, 62, 63, 64, 41, 42, 43, 44, 45, 46] 0 (c_X4_copyFrom E (fun j => h (List.getD [59, 60, 61, 62, 63, 64, 41, 42, 43, 44, 45, 46, 7, 11, 66, 7, 11, 66] j 0)) (fun j => g (List.getD [] j 0)) g_q130) (cut_wX_wRC_59_60_61_c ..) rfl rfl (ws' := (wX E h g μ131)) (by rw [e_μ131]; exact cut_wX_wRC_59_60_61_w ..) (wRC_0 ..) rfl k_638 k_639 k_640 k_78 k_641 (⟨rfl, rfl⟩) hdV_X4_copyFrom ⟨Nat.le_of_ble_eq_true rfl, Nat.le_of_ble_eq_true rfl⟩ rfl (Nat.le_of_ble_eq_true rfl) rfl dX11_flyRow_39 ?_
                    refine j_aload_n X dX11_flyRow_42 rfl rfl ?_
                    refine j_get (C := RX11) (T := TX11) (N := 10) X iX11 0 (wX_0 ..) rfl 3 (by decide) k_313 rfl rfl dX11_flyRow_43 ?_
                    refine j_iload_n X dX11_flyRow_46 rfl rfl ?_
                    refine j_iconst (v := (1 : Int32)) X dX11_flyRow_47 (by decide) ?_
                    refine j_iadd X dX11_flyRow_48 ?_
                    by_cases n_49_0 : (x3 + (1 : Int32)) = (0 : Int32)
                    · replace hf := (if_pos n_49_0).symm.trans hf
                      refine j_aald3 X 65 (wX_65 ..) (b := h 41) (by rw [n_49_0]; unfold vp_in; decide) (by rw [n_49_0]; rfl) dX11_flyRow_49 ?_
                      refine j_iload_n X dX11_flyRow_50 rfl rfl ?_
                      refine j_iload X dX11_flyRow_51 rfl ?_
                      obtain ⟨c132, hf⟩ := oi_t hf
                      refine j_idiv X dX11_flyRow_53 c132 ?_
                      refine j_bipush (v := (9 : Int32)) X dX11_flyRow_54 (by decide) ?_
                      refine j_irem X dX11_flyRow_56 (by decide) ?_
                      obtain ⟨q133, g_q133, hf⟩ := ob_t hf
                      obtain ⟨μ134, e_μ134, hf⟩ := bd_e hf
                      refine j_callV X [41, 42, 43, 44, 45, 46, 7, 8, 9, 10, 11, 12, 13, 14, 66, 67, 68, 69, 70, 71, 72, 73] 0 (c_X4_flyAt E (fun j => h (List.getD [41, 42, 43, 44, 45, 46, 7, 8, 9, 10, 11, 12, 13, 14, 66, 67, 68, 69, 70, 71, 72, 73] j 0)) (fun j => g (List.getD [0, 1] j 0)) g_q133) (cut_wX_wR_41_42_43_c ..) rfl rfl (ws' := (wX E h g μ134)) (by rw [e_μ134]; exact cut_wX_wR_41_42_43_w ..) (wR_0 ..) rfl k_603 k_604 k_605 k_78 k_606 (⟨rfl, rfl⟩) hdV_X4_flyAt ⟨Nat.le_of_ble_eq_true rfl, Nat.le_of_ble_eq_true rfl⟩ rfl (Nat.le_of_ble_eq_true rfl) rfl dX11_flyRow_57 ?_
                      refine j_pop X dX11_flyRow_60 rfl ?_
                      refine j_iinc3 (k := (1 : Int32)) X dX11_flyRow_61 (by decide) (by decide) rfl ?_
                      refine j_goto (tgt := 2) X dX11_flyRow_64 (by decide) ?_
                      refine j_keep [true, true, true, true, false] rfl ?_
                      exact ih _ _ _ _ hf
                    · replace hf := (if_neg n_49_0).symm.trans hf
                      by_cases n_49_1 : (x3 + (1 : Int32)) = (1 : Int32)
                      · replace hf := (if_pos n_49_1).symm.trans hf
                        refine j_aald3 X 65 (wX_65 ..) (b := h 47) (by rw [n_49_1]; unfold vp_in; decide) (by rw [n_49_1]; rfl) dX11_flyRow_49 ?_
                        refine j_iload_n X dX11_flyRow_50 rfl rfl ?_
                        refine j_iload X dX11_flyRow_51 rfl ?_
                        obtain ⟨c135, hf⟩ := oi_t hf
                        refine j_idiv X dX11_flyRow_53 c135 ?_
                        refine j_bipush (v := (9 : Int32)) X dX11_flyRow_54 (by decide) ?_
                        refine j_irem X dX11_flyRow_56 (by decide) ?_
                        obtain ⟨q136, g_q136, hf⟩ := ob_t hf
                        obtain ⟨μ137, e_μ137, hf⟩ := bd_e hf
                        refine j_callV X [47, 48, 49, 50, 51, 52, 7, 8, 9, 10, 11, 12, 13, 14, 66, 67, 68, 69, 70, 71, 72, 73] 0 (c_X4_flyAt E (fun j => h (List.getD [47, 48, 49, 50, 51, 52, 7, 8, 9, 10, 11, 12, 13, 14, 66, 67, 68, 69, 70, 71, 72, 73] j 0)) (fun j => g (List.getD [0, 1] j 0)) g_q136) (cut_wX_wR_47_48_49_c ..) rfl rfl (ws' := (wX E h g μ137)) (by rw [e_μ137]; exact cut_wX_wR_47_48_49_w ..) (wR_0 ..) rfl k_603 k_604 k_605 k_78 k_606 (⟨rfl, rfl⟩) hdV_X4_flyAt ⟨Nat.le_of_ble_eq_true rfl, Nat.le_of_ble_eq_true rfl⟩ rfl (Nat.le_of_ble_eq_true rfl) rfl dX11_flyRow_57 ?_
                        refine j_pop X dX11_flyRow_60 rfl ?_
                        refine j_iinc3 (k := (1 : Int32)) X dX11_flyRow_61 (by decide) (by decide) rfl ?_
                        refine j_goto (tgt := 2) X dX11_flyRow_64 (by decide) ?_
                        refine j_keep [true, true, true, true, false] rfl ?_
                        exact ih _ _ _ _ hf
                      · replace hf := (if_neg n_49_1).symm.trans hf
                        by_cases n_49_2 : (x3 + (1 : Int32)) = (2 : Int32)
                        · replace hf := (if_pos n_49_2).symm.trans hf
                          refine j_aald3 X 65 (wX_65 ..) (b := h 53) (by rw [n_49_2]; unfold vp_in; decide) (by rw [n_49_2]; rfl) dX11_flyRow_49 ?_
                          refine j_iload_n X dX11_flyRow_50 rfl rfl ?_
                          refine j_iload X dX11_flyRow_51 rfl ?_
                          obtain ⟨c138, hf⟩ := oi_t hf
                          refine j_idiv X dX11_flyRow_53 c138 ?_
                          refine j_bipush (v := (9 : Int32)) X dX11_flyRow_54 (by decide) ?_
                          refine j_irem X dX11_flyRow_56 (by decide) ?_
                          obtain ⟨q139, g_q139, hf⟩ := ob_t hf
                          obtain ⟨μ140, e_μ140, hf⟩ := bd_e hf
                          refine j_callV X [53, 54, 55, 56, 57, 58, 7, 8, 9, 10, 11, 12, 13, 14, 66, 67, 68, 69, 70, 71, 72, 73] 0 (c_X4_flyAt E (fun j => h (List.getD [53, 54, 55, 56, 57, 58, 7, 8, 9, 10, 11, 12, 13, 14, 66, 67, 68, 69, 70, 71, 72, 73] j 0)) (fun j => g (List.getD [0, 1] j 0)) g_q139) (cut_wX_wR_53_54_55_c ..) rfl rfl (ws' := (wX E h g μ140)) (by rw [e_μ140]; exact cut_wX_wR_53_54_55_w ..) (wR_0 ..) rfl k_603 k_604 k_605 k_78 k_606 (⟨rfl, rfl⟩) hdV_X4_flyAt ⟨Nat.le_of_ble_eq_true rfl, Nat.le_of_ble_eq_true rfl⟩ rfl (Nat.le_of_ble_eq_true rfl) rfl dX11_flyRow_57 ?_
                          refine j_pop X dX11_flyRow_60 rfl ?_
                          refine j_iinc3 (k := (1 : Int32)) X dX11_flyRow_61 (by decide) (by decide) rfl ?_
                          refine j_goto (tgt := 2) X dX11_flyRow_64 (by decide) ?_
                          refine j_keep [true, true, true, true, false] rfl ?_
                          exact ih _ _ _ _ hf
                        · replace hf := (if_neg n_49_2).symm.trans hf
                          by_cases n_49_3 : (x3 + (1 : Int32)) = (3 : Int32)
                          · replace hf := (if_pos n_49_3).symm.trans hf
                            refine j_aald3 X 65 (wX_65 ..) (b := h 59) (by rw [n_49_3]; unfold vp_in; decide) (by rw [n_49_3]; rfl) dX11_flyRow_49 ?_
                            refine j_iload_n X dX11_flyRow_50 rfl rfl ?_
                            refine j_iload X dX11_flyRow_51 rfl ?_
                            obtain ⟨c141, hf⟩ := oi_t hf
                            refine j_idiv X dX11_flyRow_53 c141 ?_
                            refine j_bipush (v := (9 : Int32)) X dX11_flyRow_54 (by decide) ?_
                            refine j_irem X dX11_flyRow_56 (by decide) ?_
                            obtain ⟨q142, g_q142, hf⟩ := ob_t hf
                            obtain ⟨μ143, e_μ143, hf⟩ := bd_e hf
                            refine j_callV X [59, 60, 61, 62, 63, 64, 7, 8, 9, 10, 11, 12, 13, 14, 66, 67, 68, 69, 70, 71, 72, 73] 0 (c_X4_flyAt E (fun j => h (List.getD [59, 60, 61, 62, 63, 64, 7, 8, 9, 10, 11, 12, 13, 14, 66, 67, 68, 69, 70, 71, 72, 73] j 0)) (fun j => g (List.getD [0, 1] j 0)) g_q142) (cut_wX_wR_59_60_61_c ..) rfl rfl (ws' := (wX E h g μ143)) (by rw [e_μ143]; exact cut_wX_wR_59_60_61_w ..) (wR_0 ..) rfl k_603 k_604 k_605 k_78 k_606 (⟨rfl, rfl⟩) hdV_X4_flyAt ⟨Nat.le_of_ble_eq_true rfl, Nat.le_of_ble_eq_true rfl⟩ rfl (Nat.le_of_ble_eq_true rfl) rfl dX11_flyRow_57 ?_
                            refine j_pop X dX11_flyRow_60 rfl ?_
                            refine j_iinc3 (k := (1 : Int32)) X dX11_flyRow_61 (by decide) (by decide) rfl ?_
                            refine j_goto (tgt := 2) X dX11_flyRow_64 (by decide) ?_
                            refine j_keep [true, true, true, true, false] rfl ?_
                            exact ih _ _ _ _ hf
                          · replace hf := (if_neg n_49_3).symm.trans hf
                            cases hf
                  · replace hf := (if_neg n_38_0).symm.trans hf
                    by_cases n_38_1 : x3 = (1 : Int32)
                    · replace hf := (if_pos n_38_1).symm.trans hf
                      refine j_aald3 X 65 (wX_65 ..) (b := h 47) (by rw [n_38_1]; unfold vp_in; decide) (by rw [n_38_1]; rfl) dX11_flyRow_38 ?_
                      obtain ⟨q144, g_q144, hf⟩ := ob_t hf
                      obtain ⟨μ145, e_μ145, hf⟩ := bd_e hf
                      refine j_callV X [59, 60, 61, 62, 63, 64, 47, 48, 49, 50, 51, 52] 0 (c_X4_copyFrom E (fun j => h (List.getD [59, 60, 61, 62, 63, 64, 47, 48, 49, 50, 51, 52, 7, 11, 66, 7, 11, 66] j 0)) (fun j => g (List.getD [] j 0)) g_q144) (cut_wX_wRC_59_60_61_x62_63_64_47_48_49_50_51_52_7_11_66_7_11_66_c ..) rfl rfl (ws' := (wX E h g μ145)) (by rw [e_μ145]; exact cut_wX_wRC_59_60_61_x62_63_64_47_48_49_50_51_52_7_11_66_7_11_66_w ..) (wRC_0 ..) rfl k_638 k_639 k_640 k_78 k_641 (⟨rfl, rfl⟩) hdV_X4_copyFrom ⟨Nat.le_of_ble_eq_true rfl, Nat.le_of_ble_eq_true rfl⟩ rfl (Nat.le_of_ble_eq_true rfl) rfl dX11_flyRow_39 ?_
                      refine j_aload_n X dX11_flyRow_42 rfl rfl ?_
                      refine j_get (C := RX11) (T := TX11) (N := 10) X iX11 0 (wX_0 ..) rfl 3 (by decide) k_313 rfl rfl dX11_flyRow_43 ?_
                      refine j_iload_n X dX11_flyRow_46 rfl rfl ?_
                      refine j_iconst (v := (1 : Int32)) X dX11_flyRow_47 (by decide) ?_
                      refine j_iadd X dX11_flyRow_48 ?_
                      by_cases n_49_0 : (x3 + (1 : Int32)) = (0 : Int32)
                      · replace hf := (if_pos n_49_0).symm.trans hf
                        refine j_aald3 X 65 (wX_65 ..) (b := h 41) (by rw [n_49_0]; unfold vp_in; decide) (by rw [n_49_0]; rfl) dX11_flyRow_49 ?_
                        refine j_iload_n X dX11_flyRow_50 rfl rfl ?_
                        refine j_iload X dX11_flyRow_51 rfl ?_
                        obtain ⟨c146, hf⟩ := oi_t hf
                        refine j_idiv X dX11_flyRow_53 c146 ?_
                        refine j_bipush (v := (9 : Int32)) X dX11_flyRow_54 (by decide) ?_
                        refine j_irem X dX11_flyRow_56 (by decide) ?_
                        obtain ⟨q147, g_q147, hf⟩ := ob_t hf
                        obtain ⟨μ148, e_μ148, hf⟩ := bd_e hf
                        refine j_callV X [41, 42, 43, 44, 45, 46, 7, 8, 9, 10, 11, 12, 13, 14, 66, 67, 68, 69, 70, 71, 72, 73] 0 (c_X4_flyAt E (fun j => h (List.getD [41, 42, 43, 44, 45, 46, 7, 8, 9, 10, 11, 12, 13, 14, 66, 67, 68, 69, 70, 71, 72, 73] j 0)) (fun j => g (List.getD [0, 1] j 0)) g_q147) (cut_wX_wR_41_42_43_c ..) rfl rfl (ws' := (wX E h g μ148)) (by rw [e_μ148]; exact cut_wX_wR_41_42_43_w ..) (wR_0 ..) rfl k_603 k_604 k_605 k_78 k_606 (⟨rfl, rfl⟩) hdV_X4_flyAt ⟨Nat.le_of_ble_eq_true rfl, Nat.le_of_ble_eq_true rfl⟩ rfl (Nat.le_of_ble_eq_true rfl) rfl dX11_flyRow_57 ?_
                        refine j_pop X dX11_flyRow_60 rfl ?_
                        refine j_iinc3 (k := (1 : Int32)) X dX11_flyRow_61 (by decide) (by decide) rfl ?_
                        refine j_goto (tgt := 2) X dX11_flyRow_64 (by decide) ?_
                        refine j_keep [true, true, true, true, false] rfl ?_
                        exact ih _ _ _ _ hf
                      · replace hf := (if_neg n_49_0).symm.trans hf
                        by_cases n_49_1 : (x3 + (1 : Int32)) = (1 : Int32)
                        · replace hf := (if_pos n_49_1).symm.trans hf
                          refine j_aald3 X 65 (wX_65 ..) (b := h 47) (by rw [n_49_1]; unfold vp_in; decide) (by rw [n_49_1]; rfl) dX11_flyRow_49 ?_
                          refine j_iload_n X dX11_flyRow_50 rfl rfl ?_
                          refine j_iload X dX11_flyRow_51 rfl ?_
                          obtain ⟨c149, hf⟩ := oi_t hf
                          refine j_idiv X dX11_flyRow_53 c149 ?_
                          refine j_bipush (v := (9 : Int32)) X dX11_flyRow_54 (by decide) ?_
                          refine j_irem X dX11_flyRow_56 (by decide) ?_
                          obtain ⟨q150, g_q150, hf⟩ := ob_t hf
                          obtain ⟨μ151, e_μ151, hf⟩ := bd_e hf
                          refine j_callV X [47, 48, 49, 50, 51, 52, 7, 8, 9, 10, 11, 12, 13, 14, 66, 67, 68, 69, 70, 71, 72, 73] 0 (c_X4_flyAt E (fun j => h (List.getD [47, 48, 49, 50, 51, 52, 7, 8, 9, 10, 11, 12, 13, 14, 66, 67, 68, 69, 70, 71, 72, 73] j 0)) (fun j => g (List.getD [0, 1] j 0)) g_q150) (cut_wX_wR_47_48_49_c ..) rfl rfl (ws' := (wX E h g μ151)) (by rw [e_μ151]; exact cut_wX_wR_47_48_49_w ..) (wR_0 ..) rfl k_603 k_604 k_605 k_78 k_606 (⟨rfl, rfl⟩) hdV_X4_flyAt ⟨Nat.le_of_ble_eq_true rfl, Nat.le_of_ble_eq_true rfl⟩ rfl (Nat.le_of_ble_eq_true rfl) rfl dX11_flyRow_57 ?_
                          refine j_pop X dX11_flyRow_60 rfl ?_
                          refine j_iinc3 (k := (1 : Int32)) X dX11_flyRow_61 (by decide) (by decide) rfl ?_
                          refine j_goto (tgt := 2) X dX11_flyRow_64 (by decide) ?_
                          refine j_keep [true, true, true, true, false] rfl ?_
                          exact ih _ _ _ _ hf
                        · replace hf := (if_neg n_49_1).symm.trans hf
                          by_cases n_49_2 : (x3 + (1 : Int32)) = (2 : Int32)
                          · replace hf := (if_pos n_49_2).symm.trans hf
                            refine j_aald3 X 65 (wX_65 ..) (b := h 53) (by rw [n_49_2]; unfold vp_in; decide) (by rw [n_49_2]; rfl) dX11_flyRow_49 ?_
                            refine j_iload_n X dX11_flyRow_50 rfl rfl ?_
                            refine j_iload X dX11_flyRow_51 rfl ?_
                            obtain ⟨c152, hf⟩ := oi_t hf
                            refine j_idiv X dX11_flyRow_53 c152 ?_
                            refine j_bipush (v := (9 : Int32)) X dX11_flyRow_54 (by decide) ?_
                            refine j_irem X dX11_flyRow_56 (by decide) ?_
                            obtain ⟨q153, g_q153, hf⟩ := ob_t hf
                            obtain ⟨μ154, e_μ154, hf⟩ := bd_e hf
                            refine j_callV X [53, 54, 55, 56, 57, 58, 7, 8, 9, 10, 11, 12, 13, 14, 66, 67, 68, 69, 70, 71, 72, 73] 0 (c_X4_flyAt E (fun j => h (List.getD [53, 54, 55, 56, 57, 58, 7, 8, 9, 10, 11, 12, 13, 14, 66, 67, 68, 69, 70, 71, 72, 73] j 0)) (fun j => g (List.getD [0, 1] j 0)) g_q153) (cut_wX_wR_53_54_55_c ..) rfl rfl (ws' := (wX E h g μ154)) (by rw [e_μ154]; exact cut_wX_wR_53_54_55_w ..) (wR_0 ..) rfl k_603 k_604 k_605 k_78 k_606 (⟨rfl, rfl⟩) hdV_X4_flyAt ⟨Nat.le_of_ble_eq_true rfl, Nat.le_of_ble_eq_true rfl⟩ rfl (Nat.le_of_ble_eq_true rfl) rfl dX11_flyRow_57 ?_
                            refine j_pop X dX11_flyRow_60 rfl ?_
                            refine j_iinc3 (k := (1 : Int32)) X dX11_flyRow_61 (by decide) (by decide) rfl ?_
                            refine j_goto (tgt := 2) X dX11_flyRow_64 (by decide) ?_
                            refine j_keep [true, true, true, true, false] rfl ?_
                            exact ih _ _ _ _ hf
                          · replace hf := (if_neg n_49_2).symm.trans hf
                            by_cases n_49_3 : (x3 + (1 : Int32)) = (3 : Int32)
                            · replace hf := (if_pos n_49_3).symm.trans hf
                              refine j_aald3 X 65 (wX_65 ..) (b := h 59) (by rw [n_49_3]; unfold vp_in; decide) (by rw [n_49_3]; rfl) dX11_flyRow_49 ?_
                              refine j_iload_n X dX11_flyRow_50 rfl rfl ?_
                              refine j_iload X dX11_flyRow_51 rfl ?_
                              obtain ⟨c155, hf⟩ := oi_t hf
                              refine j_idiv X dX11_flyRow_53 c155 ?_
                              refine j_bipush (v := (9 : Int32)) X dX11_flyRow_54 (by decide) ?_
                              refine j_irem X dX11_flyRow_56 (by decide) ?_
                              obtain ⟨q156, g_q156, hf⟩ := ob_t hf
                              obtain ⟨μ157, e_μ157, hf⟩ := bd_e hf
                              refine j_callV X [59, 60, 61, 62, 63, 64, 7, 8, 9, 10, 11, 12, 13, 14, 66, 67, 68, 69, 70, 71, 72, 73] 0 (c_X4_flyAt E (fun j => h (List.getD [59, 60, 61, 62, 63, 64, 7, 8, 9, 10, 11, 12, 13, 14, 66, 67, 68, 69, 70, 71, 72, 73] j 0)) (fun j => g (List.getD [0, 1] j 0)) g_q156) (cut_wX_wR_59_60_61_c ..) rfl rfl (ws' := (wX E h g μ157)) (by rw [e_μ157]; exact cut_wX_wR_59_60_61_w ..) (wR_0 ..) rfl k_603 k_604 k_605 k_78 k_606 (⟨rfl, rfl⟩) hdV_X4_flyAt ⟨Nat.le_of_ble_eq_true rfl, Nat.le_of_ble_eq_true rfl⟩ rfl (Nat.le_of_ble_eq_true rfl) rfl dX11_flyRow_57 ?_
                              refine j_pop X dX11_flyRow_60 rfl ?_
                              refine j_iinc3 (k := (1 : Int32)) X dX11_flyRow_61 (by decide) (by decide) rfl ?_
                              refine j_goto (tgt := 2) X dX11_flyRow_64 (by decide) ?_
                              refine j_keep [true, true, true, true, false] rfl ?_
                              exact ih _ _ _ _ hf
                            · replace hf := (if_neg n_49_3).symm.trans hf
                              cases hf
                    · replace hf := (if_neg n_38_1).symm.trans hf
                      by_cases n_38_2 : x3 = (2 : Int32)
                      · replace hf := (if_pos n_38_2).symm.trans hf
                        refine j_aald3 X 65 (wX_65 ..) (b := h 53) (by rw [n_38_2]; unfold vp_in; decide) (by rw [n_38_2]; rfl) dX11_flyRow_38 ?_
                        obtain ⟨q158, g_q158, hf⟩ := ob_t hf
                        obtain ⟨μ159, e_μ159, hf⟩ := bd_e hf
                        refine j_callV X [59, 60, 61, 62, 63, 64, 53, 54, 55, 56, 57, 58] 0 (c_X4_copyFrom E (fun j => h (List.getD [59, 60, 61, 62, 63, 64, 53, 54, 55, 56, 57, 58, 7, 11, 66, 7, 11, 66] j 0)) (fun j => g (List.getD [] j 0)) g_q158) (cut_wX_wRC_59_60_61_x62_63_64_53_54_55_56_57_58_7_11_66_7_11_66_c ..) rfl rfl (ws' := (wX E h g μ159)) (by rw [e_μ159]; exact cut_wX_wRC_59_60_61_x62_63_64_53_54_55_56_57_58_7_11_66_7_11_66_w ..) (wRC_0 ..) rfl k_638 k_639 k_640 k_78 k_641 (⟨rfl, rfl⟩) hdV_X4_copyFrom ⟨Nat.le_of_ble_eq_true rfl, Nat.le_of_ble_eq_true rfl⟩ rfl (Nat.le_of_ble_eq_true rfl) rfl dX11_flyRow_39 ?_
                        refine j_aload_n X dX11_flyRow_42 rfl rfl ?_
                        refine j_get (C := RX11) (T := TX11) (N := 10) X iX11 0 (wX_0 ..) rfl 3 (by decide) k_313 rfl rfl dX11_flyRow_43 ?_
                        refine j_iload_n X dX11_flyRow_46 rfl rfl ?_
                        refine j_iconst (v := (1 : Int32)) X dX11_flyRow_47 (by decide) ?_
                        refine j_iadd X dX11_flyRow_48 ?_
                        by_cases n_49_0 : (x3 + (1 : Int32)) = (0 : Int32)
                        · replace hf := (if_pos n_49_0).symm.trans hf
                          refine j_aald3 X 65 (wX_65 ..) (b := h 41) (by rw [n_49_0]; unfold vp_in; decide) (by rw [n_49_0]; rfl) dX11_flyRow_49 ?_
                          refine j_iload_n X dX11_flyRow_50 rfl rfl ?_
                          refine j_iload X dX11_flyRow_51 rfl ?_
                          obtain ⟨c160, hf⟩ := oi_t hf
                          refine j_idiv X dX11_flyRow_53 c160 ?_
                          refine j_bipush (v := (9 : Int32)) X dX11_flyRow_54 (by decide) ?_
                          refine j_irem X dX11_flyRow_56 (by decide) ?_
                          obtain ⟨q161, g_q161, hf⟩ := ob_t hf
                          obtain ⟨μ162, e_μ162, hf⟩ := bd_e hf
                          refine j_callV X [41, 42, 43, 44, 45, 46, 7, 8, 9, 10, 11, 12, 13, 14, 66, 67, 68, 69, 70, 71, 72, 73] 0 (c_X4_flyAt E (fun j => h (List.getD [41, 42, 43, 44, 45, 46, 7, 8, 9, 10, 11, 12, 13, 14, 66, 67, 68, 69, 70, 71, 72, 73] j 0)) (fun j => g (List.getD [0, 1] j 0)) g_q161) (cut_wX_wR_41_42_43_c ..) rfl rfl (ws' := (wX E h g μ162)) (by rw [e_μ162]; exact cut_wX_wR_41_42_43_w ..) (wR_0 ..) rfl k_603 k_604 k_605 k_78 k_606 (⟨rfl, rfl⟩) hdV_X4_flyAt ⟨Nat.le_of_ble_eq_true rfl, Nat.le_of_ble_eq_true rfl⟩ rfl (Nat.le_of_ble_eq_true rfl) rfl dX11_flyRow_57 ?_
                          refine j_pop X dX11_flyRow_60 rfl ?_
                          refine j_iinc3 (k := (1 : Int32)) X dX11_flyRow_61 (by decide) (by decide) rfl ?_
                          refine j_goto (tgt := 2) X dX11_flyRow_64 (by decide) ?_
                          refine j_keep [true, true, true, true, false] rfl ?_
                          exact ih _ _ _ _ hf
                        · replace hf := (if_neg n_49_0).symm.trans hf
                          by_cases n_49_1 : (x3 + (1 : Int32)) = (1 : Int32)
                          · replace hf := (if_pos n_49_1).symm.trans hf
                            refine j_aald3 X 65 (wX_65 ..) (b := h 47) (by rw [n_49_1]; unfold vp_in; decide) (by rw [n_49_1]; rfl) dX11_flyRow_49 ?_
                            refine j_iload_n X dX11_flyRow_50 rfl rfl ?_
                            refine j_iload X dX11_flyRow_51 rfl ?_
                            obtain ⟨c163, hf⟩ := oi_t hf
                            refine j_idiv X dX11_flyRow_53 c163 ?_
                            refine j_bipush (v := (9 : Int32)) X dX11_flyRow_54 (by decide) ?_
                            refine j_irem X dX11_flyRow_56 (by decide) ?_
                            obtain ⟨q164, g_q164, hf⟩ := ob_t hf
                            obtain ⟨μ165, e_μ165, hf⟩ := bd_e hf
                            refine j_callV X [47, 48, 49, 50, 51, 52, 7, 8, 9, 10, 11, 12, 13, 14, 66, 67, 68, 69, 70, 71, 72, 73] 0 (c_X4_flyAt E (fun j => h (List.getD [47, 48, 49, 50, 51, 52, 7, 8, 9, 10, 11, 12, 13, 14, 66, 67, 68, 69, 70, 71, 72, 73] j 0)) (fun j => g (List.getD [0, 1] j 0)) g_q164) (cut_wX_wR_47_48_49_c ..) rfl rfl (ws' := (wX E h g μ165)) (by rw [e_μ165]; exact cut_wX_wR_47_48_49_w ..) (wR_0 ..) rfl k_603 k_604 k_605 k_78 k_606 (⟨rfl, rfl⟩) hdV_X4_flyAt ⟨Nat.le_of_ble_eq_true rfl, Nat.le_of_ble_eq_true rfl⟩ rfl (Nat.le_of_ble_eq_true rfl) rfl dX11_flyRow_57 ?_
                            refine j_pop X dX11_flyRow_60 rfl ?_
                            refine j_iinc3 (k := (1 : Int32)) X dX11_flyRow_61 (by decide) (by decide) rfl ?_
                            refine j_goto (tgt := 2) X dX11_flyRow_64 (by decide) ?_
                            refine j_keep [true, true, true, true, false] rfl ?_
                            exact ih _ _ _ _ hf
                          · replace hf := (if_neg n_49_1).symm.trans hf
                            by_cases n_49_2 : (x3 + (1 : Int32)) = (2 : Int32)
                            · replace hf := (if_pos n_49_2).symm.trans hf
                              refine j_aald3 X 65 (wX_65 ..) (b := h 53) (by rw [n_49_2]; unfold vp_in; decide) (by rw [n_49_2]; rfl) dX11_flyRow_49 ?_
                              refine j_iload_n X dX11_flyRow_50 rfl rfl ?_
                              refine j_iload X dX11_flyRow_51 rfl ?_
                              obtain ⟨c166, hf⟩ := oi_t hf
                              refine j_idiv X dX11_flyRow_53 c166 ?_
                              refine j_bipush (v := (9 : Int32)) X dX11_flyRow_54 (by decide) ?_
                              refine j_irem X dX11_flyRow_56 (by decide) ?_
                              obtain ⟨q167, g_q167, hf⟩ := ob_t hf
                              obtain ⟨μ168, e_μ168, hf⟩ := bd_e hf
                              refine j_callV X [53, 54, 55, 56, 57, 58, 7, 8, 9, 10, 11, 12, 13, 14, 66, 67, 68, 69, 70, 71, 72, 73] 0 (c_X4_flyAt E (fun j => h (List.getD [53, 54, 55, 56, 57, 58, 7, 8, 9, 10, 11, 12, 13, 14, 66, 67, 68, 69, 70, 71, 72, 73] j 0)) (fun j => g (List.getD [0, 1] j 0)) g_q167) (cut_wX_wR_53_54_55_c ..) rfl rfl (ws' := (wX E h g μ168)) (by rw [e_μ168]; exact cut_wX_wR_53_54_55_w ..) (wR_0 ..) rfl k_603 k_604 k_605 k_78 k_606 (⟨rfl, rfl⟩) hdV_X4_flyAt ⟨Nat.le_of_ble_eq_true rfl, Nat.le_of_ble_eq_true rfl⟩ rfl (Nat.le_of_ble_eq_true rfl) rfl dX11_flyRow_57 ?_
                              refine j_pop X dX11_flyRow_60 rfl ?_
                              refine j_iinc3 (k := (1 : Int32)) X dX11_flyRow_61 (by decide) (by decide) rfl ?_
                              refine j_goto (tgt := 2) X dX11_flyRow_64 (by decide) ?_
                              refine j_keep [true, true, true, true, false] rfl ?_
                              exact ih _ _ _ _ hf
                            · replace hf := (if_neg n_49_2).symm.trans hf
                              by_cases n_49_3 : (x3 + (1 : Int32)) = (3 : Int32)
                              · replace hf := (if_pos n_49_3).symm.trans hf
                                refine j_aald3 X 65 (wX_65 ..) (b := h 59) (by rw [n_49_3]; unfold vp_in; decide) (by rw [n_49_3]; rfl) dX11_flyRow_49 ?_
                                refine j_iload_n X dX11_flyRow_50 rfl rfl ?_
                                refine j_iload X dX11_flyRow_51 rfl ?_
                                obtain ⟨c169, hf⟩ := oi_t hf
                                refine j_idiv X dX11_flyRow_53 c169 ?_
                                refine j_bipush (v := (9 : Int32)) X dX11_flyRow_54 (by decide) ?_
                                refine j_irem X dX11_flyRow_56 (by decide) ?_
                                obtain ⟨q170, g_q170, hf⟩ := ob_t hf
                                obtain ⟨μ171, e_μ171, hf⟩ := bd_e hf
                                refine j_callV X [59, 60, 61, 62, 63, 64, 7, 8, 9, 10, 11, 12, 13, 14, 66, 67, 68, 69, 70, 71, 72, 73] 0 (c_X4_flyAt E (fun j => h (List.getD [59, 60, 61, 62, 63, 64, 7, 8, 9, 10, 11, 12, 13, 14, 66, 67, 68, 69, 70, 71, 72, 73] j 0)) (fun j => g (List.getD [0, 1] j 0)) g_q170) (cut_wX_wR_59_60_61_c ..) rfl rfl (ws' := (wX E h g μ171)) (by rw [e_μ171]; exact cut_wX_wR_59_60_61_w ..) (wR_0 ..) rfl k_603 k_604 k_605 k_78 k_606 (⟨rfl, rfl⟩) hdV_X4_flyAt ⟨Nat.le_of_ble_eq_true rfl, Nat.le_of_ble_eq_true rfl⟩ rfl (Nat.le_of_ble_eq_true rfl) rfl dX11_flyRow_57 ?_
                                refine j_pop X dX11_flyRow_60 rfl ?_
                                refine j_iinc3 (k := (1 : Int32)) X dX11_flyRow_61 (by decide) (by decide) rfl ?_
                                refine j_goto (tgt := 2) X dX11_flyRow_64 (by decide) ?_
                                refine j_keep [true, true, true, true, false] rfl ?_
                                exact ih _ _ _ _ hf
                              · replace hf := (if_neg n_49_3).symm.trans hf
                                cases hf
                      · replace hf := (if_neg n_38_2).symm.trans hf
                        by_cases n_38_3 : x3 = (3 : Int32)
                        · replace hf := (if_pos n_38_3).symm.trans hf
                          refine j_aald3 X 65 (wX_65 ..) (b := h 59) (by rw [n_38_3]; unfold vp_in; decide) (by rw [n_38_3]; rfl) dX11_flyRow_38 ?_
                          cases hf
                        · replace hf := (if_neg n_38_3).symm.trans hf
                          cases hf
                · replace hf := (if_neg n_32_3).symm.trans hf
                  cases hf
  rw [f_X11_flyRow] at hf
  refine j_iconst (v := (0 : Int32)) X dX11_flyRow_0 (by decide) ?_
  refine j_istore_n3 X dX11_flyRow_1 rfl (by decide) rfl ?_
  refine j_keep [true, true, true, true, false] rfl ?_
  exact lab2 _ _ _ _ _ hf
def f_X11_figures_L4 : Nat → Int32 → Int32 → Int32 → Int32 → Option Int32
  | 0, _, _, _, _ => none
  | n + 1, x0, x1, x2, x3 => (if x1 ≤ x3 then some x2 else (if inb x3 4 = true then (if ¬ (tabN x3.toNatClampNeg) = 0 then (if inb x3 4 = true then bd (x2 + ((((x0 / (tabN x3.toNatClampNeg)) - (x0 / (tabN x3.toNatClampNeg)) / (9 : Int32) * (9 : Int32)) + (1 : Int32)) * (tabT x3.toNatClampNeg))) fun y4 => ((f_X11_figures_L4 n) x0 x1 y4 (x3 + (1 : Int32))) else none) else none) else none))
def f_X11_figures (x0 : Int32) (x1 : Int32) : Option Int32 := f_X11_figures_L4 fuel0 x0 x1 (0 : Int32) (0 : Int32)
set_option maxHeartbeats 4000000 in
set_option maxRecDepth 20000 in
theorem c_X11_figures (tn tt : Nat) (E : Ev) {x0 : Int32} {x1 : Int32} {r : Int32} (hf : f_X11_figures x0 x1 = some r) : CtF tn tt E yX11_figures cX11_figures 4 (some .int) (rmOf 0 0) [] [] [.int x0, .int x1] (some (.int r)) := by
  refine ctF_start RX11 2 (by decide) rfl (Nat.le_of_ble_eq_true rfl) ?_
  intro p l e s m args below meth c A Q X F hr hlk hQ
  have lab4 : ∀ (n : Nat) (x0 : Int32) (x1 : Int32) (x2 : Int32) (x3 : Int32), f_X11_figures_L4 n x0 x1 x2 x3 = some r → J p l e (rmOf 0 0) s m args below meth c E A 4 Q [] [some (.int x0), some (.int x1), some (.int x2), some (.int x3)] 4 [] := by
    intro n
    induction n with
    | zero => intro x0 x1 x2 x3 hf; cases (show none = some r from hf)
    | succ n ih =>
      intro x0 x1 x2 x3 hf
      rw [f_X11_figures_L4] at hf
      refine j_iload_n X dX11_figures_4 rfl rfl ?_
      refine j_iload_n X dX11_figures_5 rfl rfl ?_
      refine j_icmp_ge (tgt := 36) X dX11_figures_6 (by decide) (fun c_6 => ?_) (fun c_6 => ?_)
      · replace hf := (if_pos c_6).symm.trans hf
        refine j_iload_n X dX11_figures_36 rfl rfl ?_
        obtain rfl := Option.some.inj hf
        exact j_iret X hr hlk rfl dX11_figures_37 hQ
      · replace hf := (if_neg c_6).symm.trans hf
        refine j_iload_n X dX11_figures_9 rfl rfl ?_
        refine j_iload_n X dX11_figures_10 rfl rfl ?_
        refine j_getsN X F k_683 dX11_figures_11 ?_
        refine j_iload_n X dX11_figures_14 rfl rfl ?_
        obtain ⟨c1, hf⟩ := oi_in hf
        refine j_tldN X F c1 dX11_figures_15 ?_
        obtain ⟨c2, hf⟩ := oi_t hf
        refine j_idiv X dX11_figures_16 c2 ?_
        refine j_bipush (v := (9 : Int32)) X dX11_figures_17 (by decide) ?_
        refine j_irem X dX11_figures_19 (by decide) ?_
        refine j_iconst (v := (1 : Int32)) X dX11_figures_20 (by decide) ?_
        refine j_iadd X dX11_figures_21 ?_
        refine j_getsT X F k_689 dX11_figures_22 ?_
        refine j_iload_n X dX11_figures_25 rfl rfl ?_
        obtain ⟨c3, hf⟩ := oi_in hf
        refine j_tldT X F c3 dX11_figures_26 ?_
        refine j_imul X dX11_figures_27 ?_
        refine j_iadd X dX11_figures_28 ?_
        obtain ⟨y4, e_y4, hf⟩ := bd_e hf
        refine j_top e_y4 ?_
        refine j_istore_n2 X dX11_figures_29 rfl (by decide) rfl ?_
        refine j_iinc3 (k := (1 : Int32)) X dX11_figures_30 (by decide) (by decide) rfl ?_
        refine j_goto (tgt := 4) X dX11_figures_33 (by decide) ?_
        refine j_keep [true, true, true, true] rfl ?_
        exact ih _ _ _ _ hf
  rw [f_X11_figures] at hf
  refine j_iconst (v := (0 : Int32)) X dX11_figures_0 (by decide) ?_
  refine j_istore_n2 X dX11_figures_1 rfl (by decide) rfl ?_
  refine j_iconst (v := (0 : Int32)) X dX11_figures_2 (by decide) ?_
  refine j_istore_n3 X dX11_figures_3 rfl (by decide) rfl ?_
  refine j_keep [true, true, true, true] rfl ?_
  exact lab4 _ _ _ _ _ hf
theorem cut_wX_wRC_47_48_49_x50_51_52_23_24_25_26_27_28_7_11_66_7_11_66_c (E : Ev) (h : Nat → Nat) (g : Nat → Option Nat) (μ : Mem) : ([47, 48, 49, 50, 51, 52, 23, 24, 25, 26, 27, 28] : List Nat).map (fun i => (wX E h g μ)[i]?) = (wRC E (fun j => h (List.getD [47, 48, 49, 50, 51, 52, 23, 24, 25, 26, 27, 28, 7, 11, 66, 7, 11, 66] j 0)) (fun j => g (List.getD ([] : List Nat) j 0)) (sub [47, 48, 49, 50, 51, 52, 23, 24, 25, 26, 27, 28] μ)).map some := rfl
theorem cut_wX_wRC_47_48_49_x50_51_52_23_24_25_26_27_28_7_11_66_7_11_66_w (E : Ev) (h : Nat → Nat) (g : Nat → Option Nat) (μ : Mem) (ν : Mem) : putW (wX E h g μ) [47, 48, 49, 50, 51, 52, 23, 24, 25, 26, 27, 28] (wRC E (fun j => h (List.getD [47, 48, 49, 50, 51, 52, 23, 24, 25, 26, 27, 28, 7, 11, 66, 7, 11, 66] j 0)) (fun j => g (List.getD ([] : List Nat) j 0)) ν) = wX E h g (put [47, 48, 49, 50, 51, 52, 23, 24, 25, 26, 27, 28] μ ν) := putW_A (by decide +kernel) rfl rfl
theorem cut_wX_wRC_53_54_55_x56_57_58_23_24_25_26_27_28_7_11_66_7_11_66_c (E : Ev) (h : Nat → Nat) (g : Nat → Option Nat) (μ : Mem) : ([53, 54, 55, 56, 57, 58, 23, 24, 25, 26, 27, 28] : List Nat).map (fun i => (wX E h g μ)[i]?) = (wRC E (fun j => h (List.getD [53, 54, 55, 56, 57, 58, 23, 24, 25, 26, 27, 28, 7, 11, 66, 7, 11, 66] j 0)) (fun j => g (List.getD ([] : List Nat) j 0)) (sub [53, 54, 55, 56, 57, 58, 23, 24, 25, 26, 27, 28] μ)).map some := rfl
theorem cut_wX_wRC_53_54_55_x56_57_58_23_24_25_26_27_28_7_11_66_7_11_66_w (E : Ev) (h : Nat → Nat) (g : Nat → Option Nat) (μ : Mem) (ν : Mem) : putW (wX E h g μ) [53, 54, 55, 56, 57, 58, 23, 24, 25, 26, 27, 28] (wRC E (fun j => h (List.getD [53, 54, 55, 56, 57, 58, 23, 24, 25, 26, 27, 28, 7, 11, 66, 7, 11, 66] j 0)) (fun j => g (List.getD ([] : List Nat) j 0)) ν) = wX E h g (put [53, 54, 55, 56, 57, 58, 23, 24, 25, 26, 27, 28] μ ν) := putW_A (by decide +kernel) rfl rfl
theorem cut_wX_wRC_59_60_61_x62_63_64_23_24_25_26_27_28_7_11_66_7_11_66_c (E : Ev) (h : Nat → Nat) (g : Nat → Option Nat) (μ : Mem) : ([59, 60, 61, 62, 63, 64, 23, 24, 25, 26, 27, 28] : List Nat).map (fun i => (wX E h g μ)[i]?) = (wRC E (fun j => h (List.getD [59, 60, 61, 62, 63, 64, 23, 24, 25, 26, 27, 28, 7, 11, 66, 7, 11, 66] j 0)) (fun j => g (List.getD ([] : List Nat) j 0)) (sub [59, 60, 61, 62, 63, 64, 23, 24, 25, 26, 27, 28] μ)).map some := rfl
theorem cut_wX_wRC_59_60_61_x62_63_64_23_24_25_26_27_28_7_11_66_7_11_66_w (E : Ev) (h : Nat → Nat) (g : Nat → Option Nat) (μ : Mem) (ν : Mem) : putW (wX E h g μ) [59, 60, 61, 62, 63, 64, 23, 24, 25, 26, 27, 28] (wRC E (fun j => h (List.getD [59, 60, 61, 62, 63, 64, 23, 24, 25, 26, 27, 28, 7, 11, 66, 7, 11, 66] j 0)) (fun j => g (List.getD ([] : List Nat) j 0)) ν) = wX E h g (put [59, 60, 61, 62, 63, 64, 23, 24, 25, 26, 27, 28] μ ν) := putW_A (by decide +kernel) rfl rfl
def f_X11_bestRound_L33 : Nat → Mem → Int32 → Int32 → Int32 → Int32 → Int32 → Option (Mem × Int32)
  | 0, _, _, _, _, _, _ => none
  | n + 1, μ, x1, x2, x3, x4, x5 => (if inb x2 4 = true then (if (tabN x2.toNatClampNeg) ≤ x5 then some (μ, x4) else (f_X11_flyRow μ x5 x2).bind fun q6 => ((if x2 = (0 : Int32) then (f_X4_stands (sub [41, 42, 43, 44, 45, 46, 7, 8, 9, 10, 11, 12, 13, 14, 66, 67, 68, 69, 70, 71, 72, 73] q6) x1).bind fun q7 => (bd (put [41, 42, 43, 44, 45, 46, 7, 8, 9, 10, 11, 12, 13, 14, 66, 67, 68, 69, 70, 71, 72, 73] q6 q7.1) fun μ8 => ((if q7.2 = 0 then (if x2 = (0 : Int32) then (f_X4_howMany (sub [41, 42, 43, 44, 45, 46, 7, 8, 9, 10, 11, 12, 13, 14, 66, 67, 68, 69, 70, 71, 72, 73] μ8)).bind fun q9 => (bd (put [41, 42, 43, 44, 45, 46, 7, 8, 9, 10, 11, 12, 13, 14, 66, 67, 68, 69, 70, 71, 72, 73] μ8 q9.1) fun μ10 => (bd ((x3 - (1 : Int32)) - q9.2) fun y11 => ((if inb (3 : Int32) 4 = true then (f_X11_figures x5 x2).bind fun q13 => (bd ((y11 * (tabT (3 : Int32).toNatClampNeg)) + q13) fun y14 => ((if x4 < 0 then (f_X11_bestRound_L33 n) μ10 x1 x2 x3 y14 (x5 + (1 : Int32)) else (if x4 ≤ y14 then (f_X11_bestRound_L33 n) μ10 x1 x2 x3 x4 (x5 + (1 : Int32)) else (f_X11_bestRound_L33 n) μ10 x1 x2 x3 y14 (x5 + (1 : Int32)))))) else none)))) else (if x2 = (1 : Int32) then (f_X4_howMany (sub [47, 48, 49, 50, 51, 52, 7, 8, 9, 10, 11, 12, 13, 14, 66, 67, 68, 69, 70, 71, 72, 73] μ8)).bind fun q15 => (bd (put [47, 48, 49, 50, 51, 52, 7, 8, 9, 10, 11, 12, 13, 14, 66, 67, 68, 69, 70, 71, 72, 73] μ8 q15.1) fun μ16 => (bd ((x3 - (1 : Int32)) - q15.2) fun y17 => ((if inb (3 : Int32) 4 = true then (f_X11_figures x5 x2).bind fun q19 => (bd ((y17 * (tabT (3 : Int32).toNatClampNeg)) + q19) fun y20 => ((if x4 < 0 then (f_X11_bestRound_L33 n) μ16 x1 x2 x3 y20 (x5 + (1 : Int32)) else (if x4 ≤ y20 then (f_X11_bestRound_L33 n) μ16 x1 x2 x3 x4 (x5 + (1 : Int32)) else (f_X11_bestRound_L33 n) μ16 x1 x2 x3 y20 (x5 + (1 : Int32)))))) else none)))) else (if x2 = (2 : Int32) then (f_X4_howMany (sub [53, 54, 55, 56, 57, 58, 7, 8, 9, 10, 11, 12, 13, 14, 66, 67, 68, 69, 70, 71, 72, 73] μ8)).bind fun q21 => (bd (put [53, 54, 55, 56, 57, 58, 7, 8, 9, 10, 11, 12, 13, 14, 66, 67, 68, 69, 70, 71, 72, 73] μ8 q21.1) fun μ22 => (bd ((x3 - (1 : Int32)) - q21.2) fun y23 => ((if inb (3 : Int32) 4 = true then (f_X11_figures x5 x2).bind fun q25 => (bd ((y23 * (tabT (3 : Int32).toNatClampNeg)) + q25) fun y26 => ((if x4 < 0 then (f_X11_bestRound_L33 n) μ22 x1 x2 x3 y26 (x5 + (1 : Int32)) else (if x4 ≤ y26 then (f_X11_bestRound_L33 n) μ22 x1 x2 x3 x4 (x5 + (1 : Int32)) else (f_X11_bestRound_L33 n) μ22 x1 x2 x3 y26 (x5 + (1 : Int32)))))) else none)))) else (if x2 = (3 : Int32) then (f_X4_howMany (sub [59, 60, 61, 62, 63, 64, 7, 8, 9, 10, 11, 12, 13, 14, 66, 67, 68, 69, 70, 71, 72, 73] μ8)).bind fun q27 => (bd (put [59, 60, 61, 62, 63, 64, 7, 8, 9, 10, 11, 12, 13, 14, 66, 67, 68, 69, 70, 71, 72, 73] μ8 q27.1) fun μ28 => (bd ((x3 - (1 : Int32)) - q27.2) fun y29 => ((if inb (3 : Int32) 4 = true then (f_X11_figures x5 x2).bind fun q31 => (bd ((y29 * (tabT (3 : Int32).toNatClampNeg)) + q31) fun y32 => ((if x4 < 0 then (f_X11_bestRound_L33 n) μ28 x1 x2 x3 y32 (x5 + (1 : Int32)) else (if x4 ≤ y32 then (f_X11_bestRound_L33 n) μ28 x1 x2 x3 x4 (x5 + (1 : Int32)) else (f_X11_bestRound_L33 n) μ28 x1 x2 x3 y32 (x5 + (1 : Int32)))))) else none)))) else none)))) else (f_X11_bestRound_L33 n) μ8 x1 x2 x3 x4 (x5 + (1 : Int32))))) else (if x2 = (1 : Int32) then (f_X4_stands (sub [47, 48, 49, 50, 51, 52, 7, 8, 9, 10, 11, 12, 13, 14, 66, 67, 68, 69, 70, 71, 72, 73] q6) x1).bind fun q33 => (bd (put [47, 48, 49, 50, 51, 52, 7, 8, 9, 10, 11, 12, 13, 14, 66, 67, 68, 69, 70, 71, 72, 73] q6 q33.1) fun μ34 => ((if q33.2 = 0 then (if x2 = (0 : Int32) then (f_X4_howMany (sub [41, 42, 43, 44, 45, 46, 7, 8, 9, 10, 11, 12, 13, 14, 66, 67, 68, 69, 70, 71, 72, 73] μ34)).bind fun q35 => (bd (put [41, 42, 43, 44, 45, 46, 7, 8, 9, 10, 11, 12, 13, 14, 66, 67, 68, 69, 70, 71, 72, 73] μ34 q35.1) fun μ36 => (bd ((x3 - (1 : Int32)) - q35.2) fun y37 => ((if inb (3 : Int32) 4 = true then (f_X11_figures x5 x2).bind fun q39 => (bd ((y37 * (tabT (3 : Int32).toNatClampNeg)) + q39) fun y40 => ((if x4 < 0 then (f_X11_bestRound_L33 n) μ36 x1 x2 x3 y40 (x5 + (1 : Int32)) else (if x4 ≤ y40 then (f_X11_bestRound_L33 n) μ36 x1 x2 x3 x4 (x5 + (1 : Int32)) else (f_X11_bestRound_L33 n) μ36 x1 x2 x3 y40 (x5 + (1 : Int32)))))) else none)))) else (if x2 = (1 : Int32) then (f_X4_howMany (sub [47, 48, 49, 50, 51, 52, 7, 8, 9, 10, 11, 12, 13, 14, 66, 67, 68, 69, 70, 71, 72, 73] μ34)).bind fun q41 => (bd (put [47, 48, 49, 50, 51, 52, 7, 8, 9, 10, 11, 12, 13, 14, 66, 67, 68, 69, 70, 71, 72, 73] μ34 q41.1) fun μ42 => (bd ((x3 - (1 : Int32)) - q41.2) fun y43 => ((if inb (3 : Int32) 4 = true then (f_X11_figures x5 x2).bind fun q45 => (bd ((y43 * (tabT (3 : Int32).toNatClampNeg)) + q45) fun y46 => ((if x4 < 0 then (f_X11_bestRound_L33 n) μ42 x1 x2 x3 y46 (x5 + (1 : Int32)) else (if x4 ≤ y46 then (f_X11_bestRound_L33 n) μ42 x1 x2 x3 x4 (x5 + (1 : Int32)) else (f_X11_bestRound_L33 n) μ42 x1 x2 x3 y46 (x5 + (1 : Int32)))))) else none)))) else (if x2 = (2 : Int32) then (f_X4_howMany (sub [53, 54, 55, 56, 57, 58, 7, 8, 9, 10, 11, 12, 13, 14, 66, 67, 68, 69, 70, 71, 72, 73] μ34)).bind fun q47 => (bd (put [53, 54, 55, 56, 57, 58, 7, 8, 9, 10, 11, 12, 13, 14, 66, 67, 68, 69, 70, 71, 72, 73] μ34 q47.1) fun μ48 => (bd ((x3 - (1 : Int32)) - q47.2) fun y49 => ((if inb (3 : Int32) 4 = true then (f_X11_figures x5 x2).bind fun q51 => (bd ((y49 * (tabT (3 : Int32).toNatClampNeg)) + q51) fun y52 => ((if x4 < 0 then (f_X11_bestRound_L33 n) μ48 x1 x2 x3 y52 (x5 + (1 : Int32)) else (if x4 ≤ y52 then (f_X11_bestRound_L33 n) μ48 x1 x2 x3 x4 (x5 + (1 : Int32)) else (f_X11_bestRound_L33 n) μ48 x1 x2 x3 y52 (x5 + (1 : Int32)))))) else none)))) else (if x2 = (3 : Int32) then (f_X4_howMany (sub [59, 60, 61, 62, 63, 64, 7, 8, 9, 10, 11, 12, 13, 14, 66, 67, 68, 69, 70, 71, 72, 73] μ34)).bind fun q53 => (bd (put [59, 60, 61, 62, 63, 64, 7, 8, 9, 10, 11, 12, 13, 14, 66, 67, 68, 69, 70, 71, 72, 73] μ34 q53.1) fun μ54 => (bd ((x3 - (1 : Int32)) - q53.2) fun y55 => ((if inb (3 : Int32) 4 = true then (f_X11_figures x5 x2).bind fun q57 => (bd ((y55 * (tabT (3 : Int32).toNatClampNeg)) + q57) fun y58 => ((if x4 < 0 then (f_X11_bestRound_L33 n) μ54 x1 x2 x3 y58 (x5 + (1 : Int32)) else (if x4 ≤ y58 then (f_X11_bestRound_L33 n) μ54 x1 x2 x3 x4 (x5 + (1 : Int32)) else (f_X11_bestRound_L33 n) μ54 x1 x2 x3 y58 (x5 + (1 : Int32)))))) else none)))) else none)))) else (f_X11_bestRound_L33 n) μ34 x1 x2 x3 x4 (x5 + (1 : Int32))))) else (if x2 = (2 : Int32) then (f_X4_stands (sub [53, 54, 55, 56, 57, 58, 7, 8, 9, 10, 11, 12, 13, 14, 66, 67, 68, 69, 70, 71, 72, 73] q6) x1).bind fun q59 => (bd (put [53, 54, 55, 56, 57, 58, 7, 8, 9, 10, 11, 12, 13, 14, 66, 67, 68, 69, 70, 71, 72, 73] q6 q59.1) fun μ60 => ((if q59.2 = 0 then (if x2 = (0 : Int32) then (f_X4_howMany (sub [41, 42, 43, 44, 45, 46, 7, 8, 9, 10, 11, 12, 13, 14, 66, 67, 68, 69, 70, 71, 72, 73] μ60)).bind fun q61 => (bd (put [41, 42, 43, 44, 45, 46, 7, 8, 9, 10, 11, 12, 13, 14, 66, 67, 68, 69, 70, 71, 72, 73] μ60 q61.1) fun μ62 => (bd ((x3 - (1 : Int32)) - q61.2) fun y63 => ((if inb (3 : Int32) 4 = true then (f_X11_figures x5 x2).bind fun q65 => (bd ((y63 * (tabT (3 : Int32).toNatClampNeg)) + q65) fun y66 => ((if x4 < 0 then (f_X11_bestRound_L33 n) μ62 x1 x2 x3 y66 (x5 + (1 : Int32)) else (if x4 ≤ y66 then (f_X11_bestRound_L33 n) μ62 x1 x2 x3 x4 (x5 + (1 : Int32)) else (f_X11_bestRound_L33 n) μ62 x1 x2 x3 y66 (x5 + (1 : Int32)))))) else none)))) else (if x2 = (1 : Int32) then (f_X4_howMany (sub [47, 48, 49, 50, 51, 52, 7, 8, 9, 10, 11, 12, 13, 14, 66, 67, 68, 69, 70, 71, 72, 73] μ60)).bind fun q67 => (bd (put [47, 48, 49, 50, 51, 52, 7, 8, 9, 10, 11, 12, 13, 14, 66, 67, 68, 69, 70, 71, 72, 73] μ60 q67.1) fun μ68 => (bd ((x3 - (1 : Int32)) - q67.2) fun y69 => ((if inb (3 : Int32) 4 = true then (f_X11_figures x5 x2).bind fun q71 => (bd ((y69 * (tabT (3 : Int32).toNatClampNeg)) + q71) fun y72 => ((if x4 < 0 then (f_X11_bestRound_L33 n) μ68 x1 x2 x3 y72 (x5 + (1 : Int32)) else (if x4 ≤ y72 then (f_X11_bestRound_L33 n) μ68 x1 x2 x3 x4 (x5 + (1 : Int32)) else (f_X11_bestRound_L33 n) μ68 x1 x2 x3 y72 (x5 + (1 : Int32)))))) else none)))) else (if x2 = (2 : Int32) then (f_X4_howMany (sub [53, 54, 55, 56, 57, 58, 7, 8, 9, 10, 11, 12, 13, 14, 66, 67, 68, 69, 70, 71, 72, 73] μ60)).bind fun q73 => (bd (put [53, 54, 55, 56, 57, 58, 7, 8, 9, 10, 11, 12, 13, 14, 66, 67, 68, 69, 70, 71, 72, 73] μ60 q73.1) fun μ74 => (bd ((x3 - (1 : Int32)) - q73.2) fun y75 => ((if inb (3 : Int32) 4 = true then (f_X11_figures x5 x2).bind fun q77 => (bd ((y75 * (tabT (3 : Int32).toNatClampNeg)) + q77) fun y78 => ((if x4 < 0 then (f_X11_bestRound_L33 n) μ74 x1 x2 x3 y78 (x5 + (1 : Int32)) else (if x4 ≤ y78 then (f_X11_bestRound_L33 n) μ74 x1 x2 x3 x4 (x5 + (1 : Int32)) else (f_X11_bestRound_L33 n) μ74 x1 x2 x3 y78 (x5 + (1 : Int32)))))) else none)))) else (if x2 = (3 : Int32) then (f_X4_howMany (sub [59, 60, 61, 62, 63, 64, 7, 8, 9, 10, 11, 12, 13, 14, 66, 67, 68, 69, 70, 71, 72, 73] μ60)).bind fun q79 => (bd (put [59, 60, 61, 62, 63, 64, 7, 8, 9, 10, 11, 12, 13, 14, 66, 67, 68, 69, 70, 71, 72, 73] μ60 q79.1) fun μ80 => (bd ((x3 - (1 : Int32)) - q79.2) fun y81 => ((if inb (3 : Int32) 4 = true then (f_X11_figures x5 x2).bind fun q83 => (bd ((y81 * (tabT (3 : Int32).toNatClampNeg)) + q83) fun y84 => ((if x4 < 0 then (f_X11_bestRound_L33 n) μ80 x1 x2 x3 y84 (x5 + (1 : Int32)) else (if x4 ≤ y84 then (f_X11_bestRound_L33 n) μ80 x1 x2 x3 x4 (x5 + (1 : Int32)) else (f_X11_bestRound_L33 n) μ80 x1 x2 x3 y84 (x5 + (1 : Int32)))))) else none)))) else none)))) else (f_X11_bestRound_L33 n) μ60 x1 x2 x3 x4 (x5 + (1 : Int32))))) else (if x2 = (3 : Int32) then (f_X4_stands (sub [59, 60, 61, 62, 63, 64, 7, 8, 9, 10, 11, 12, 13, 14, 66, 67, 68, 69, 70, 71, 72, 73] q6) x1).bind fun q85 => (bd (put [59, 60, 61, 62, 63, 64, 7, 8, 9, 10, 11, 12, 13, 14, 66, 67, 68, 69, 70, 71, 72, 73] q6 q85.1) fun μ86 => ((if q85.2 = 0 then (if x2 = (0 : Int32) then (f_X4_howMany (sub [41, 42, 43, 44, 45, 46, 7, 8, 9, 10, 11, 12, 13, 14, 66, 67, 68, 69, 70, 71, 72, 73] μ86)).bind fun q87 => (bd (put [41, 42, 43, 44, 45, 46, 7, 8, 9, 10, 11, 12, 13, 14, 66, 67, 68, 69, 70, 71, 72, 73] μ86 q87.1) fun μ88 => (bd ((x3 - (1 : Int32)) - q87.2) fun y89 => ((if inb (3 : Int32) 4 = true then (f_X11_figures x5 x2).bind fun q91 => (bd ((y89 * (tabT (3 : Int32).toNatClampNeg)) + q91) fun y92 => ((if x4 < 0 then (f_X11_bestRound_L33 n) μ88 x1 x2 x3 y92 (x5 + (1 : Int32)) else (if x4 ≤ y92 then (f_X11_bestRound_L33 n) μ88 x1 x2 x3 x4 (x5 + (1 : Int32)) else (f_X11_bestRound_L33 n) μ88 x1 x2 x3 y92 (x5 + (1 : Int32)))))) else none)))) else (if x2 = (1 : Int32) then (f_X4_howMany (sub [47, 48, 49, 50, 51, 52, 7, 8, 9, 10, 11, 12, 13, 14, 66, 67, 68, 69, 70, 71, 72, 73] μ86)).bind fun q93 => (bd (put [47, 48, 49, 50, 51, 52, 7, 8, 9, 10, 11, 12, 13, 14, 66, 67, 68, 69, 70, 71, 72, 73] μ86 q93.1) fun μ94 => (bd ((x3 - (1 : Int32)) - q93.2) fun y95 => ((if inb (3 : Int32) 4 = true then (f_X11_figures x5 x2).bind fun q97 => (bd ((y95 * (tabT (3 : Int32).toNatClampNeg)) + q97) fun y98 => ((if x4 < 0 then (f_X11_bestRound_L33 n) μ94 x1 x2 x3 y98 (x5 + (1 : Int32)) else (if x4 ≤ y98 then (f_X11_bestRound_L33 n) μ94 x1 x2 x3 x4 (x5 + (1 : Int32)) else (f_X11_bestRound_L33 n) μ94 x1 x2 x3 y98 (x5 + (1 : Int32)))))) else none)))) else (if x2 = (2 : Int32) then (f_X4_howMany (sub [53, 54, 55, 56, 57, 58, 7, 8, 9, 10, 11, 12, 13, 14, 66, 67, 68, 69, 70, 71, 72, 73] μ86)).bind fun q99 => (bd (put [53, 54, 55, 56, 57, 58, 7, 8, 9, 10, 11, 12, 13, 14, 66, 67, 68, 69, 70, 71, 72, 73] μ86 q99.1) fun μ100 => (bd ((x3 - (1 : Int32)) - q99.2) fun y101 => ((if inb (3 : Int32) 4 = true then (f_X11_figures x5 x2).bind fun q103 => (bd ((y101 * (tabT (3 : Int32).toNatClampNeg)) + q103) fun y104 => ((if x4 < 0 then (f_X11_bestRound_L33 n) μ100 x1 x2 x3 y104 (x5 + (1 : Int32)) else (if x4 ≤ y104 then (f_X11_bestRound_L33 n) μ100 x1 x2 x3 x4 (x5 + (1 : Int32)) else (f_X11_bestRound_L33 n) μ100 x1 x2 x3 y104 (x5 + (1 : Int32)))))) else none)))) else (if x2 = (3 : Int32) then (f_X4_howMany (sub [59, 60, 61, 62, 63, 64, 7, 8, 9, 10, 11, 12, 13, 14, 66, 67, 68, 69, 70, 71, 72, 73] μ86)).bind fun q105 => (bd (put [59, 60, 61, 62, 63, 64, 7, 8, 9, 10, 11, 12, 13, 14, 66, 67, 68, 69, 70, 71, 72, 73] μ86 q105.1) fun μ106 => (bd ((x3 - (1 : Int32)) - q105.2) fun y107 => ((if inb (3 : Int32) 4 = true then (f_X11_figures x5 x2).bind fun q109 => (bd ((y107 * (tabT (3 : Int32).toNatClampNeg)) + q109) fun y110 => ((if x4 < 0 then (f_X11_bestRound_L33 n) μ106 x1 x2 x3 y110 (x5 + (1 : Int32)) else (if x4 ≤ y110 then (f_X11_bestRound_L33 n) μ106 x1 x2 x3 x4 (x5 + (1 : Int32)) else (f_X11_bestRound_L33 n) μ106 x1 x2 x3 y110 (x5 + (1 : Int32)))))) else none)))) else none)))) else (f_X11_bestRound_L33 n) μ86 x1 x2 x3 x4 (x5 + (1 : Int32))))) else none)))))) else none)
def f_X11_bestRound (μ : Mem) (x1 : Int32) (x2 : Int32) : Option (Mem × Int32) := (f_X4_howMany (sub [23, 24, 25, 26, 27, 28, 7, 8, 9, 10, 11, 12, 13, 14, 66, 67, 68, 69, 70, 71, 72, 73] μ)).bind fun q1 => (bd (put [23, 24, 25, 26, 27, 28, 7, 8, 9, 10, 11, 12, 13, 14, 66, 67, 68, 69, 70, 71, 72, 73] μ q1.1) fun μ2 => ((if (0 : Int32) = (0 : Int32) then (f_X4_copyFrom (sub [41, 42, 43, 44, 45, 46, 23, 24, 25, 26, 27, 28] μ2)).bind fun q3 => (bd (put [41, 42, 43, 44, 45, 46, 23, 24, 25, 26, 27, 28] μ2 q3) fun μ4 => (f_X11_bestRound_L33 fuel0 μ4 x1 x2 q1.2 (-1 : Int32) (0 : Int32))) else (if (0 : Int32) = (1 : Int32) then (f_X4_copyFrom (sub [47, 48, 49, 50, 51, 52, 23, 24, 25, 26, 27, 28] μ2)).bind fun q111 => (bd (put [47, 48, 49, 50, 51, 52, 23, 24, 25, 26, 27, 28] μ2 q111) fun μ112 => (f_X11_bestRound_L33 fuel0 μ112 x1 x2 q1.2 (-1 : Int32) (0 : Int32))) else (if (0 : Int32) = (2 : Int32) then (f_X4_copyFrom (sub [53, 54, 55, 56, 57, 58, 23, 24, 25, 26, 27, 28] μ2)).bind fun q113 => (bd (put [53, 54, 55, 56, 57, 58, 23, 24, 25, 26, 27, 28] μ2 q113) fun μ114 => (f_X11_bestRound_L33 fuel0 μ114 x1 x2 q1.2 (-1 : Int32) (0 : Int32))) else (if (0 : Int32) = (3 : Int32) then (f_X4_copyFrom (sub [59, 60, 61, 62, 63, 64, 23, 24, 25, 26, 27, 28] μ2)).bind fun q115 => (bd (put [59, 60, 61, 62, 63, 64, 23, 24, 25, 26, 27, 28] μ2 q115) fun μ116 => (f_X11_bestRound_L33 fuel0 μ116 x1 x2 q1.2 (-1 : Int32) (0 : Int32))) else none))))))
set_option maxHeartbeats 4000000 in
set_option maxRecDepth 20000 in
theorem c_X11_bestRound (tn tt : Nat) (E : Ev) (h : Nat → Nat) (g : Nat → Option Nat) {μ : Mem} {x1 : Int32} {x2 : Int32} {r : (Mem × Int32)} (hf : f_X11_bestRound μ x1 x2 = some r) : CtF tn tt E yX11_bestRound cX11_bestRound 8 (some .int) (rmOf 6 139) (wX E h g μ) (wX E h g r.1) [.ref (h 0), .int x1, .int x2] (some (.int r.2)) := by
  refine ctF_start RX11 5 (by decide) rfl (Nat.le_of_ble_eq_true rfl) ?_
  intro p l e s m args below meth c A Q X F hr hlk hQ
  have lab33 : ∀ (n : Nat) (μ : Mem) (x1 : Int32) (x2 : Int32) (x3 : Int32) (x4 : Int32) (x5 : Int32), f_X11_bestRound_L33 n μ x1 x2 x3 x4 x5 = some r → J p l e (rmOf 6 139) s m args below meth c E A 8 Q (wX E h g μ) [some (.ref (h 0)), some (.int x1), some (.int x2), some (.int x3), some (.int x4), some (.int x5), none, none] 33 [] := by
    intro n
    induction n with
    | zero => intro μ x1 x2 x3 x4 x5 hf; cases (show none = some r from hf)
    | succ n ih =>
      intro μ x1 x2 x3 x4 x5 hf
      rw [f_X11_bestRound_L33] at hf
      refine j_iload X dX11_bestRound_33 rfl ?_
      refine j_getsN X F k_683 dX11_bestRound_35 ?_
      refine j_iload_n X dX11_bestRound_38 rfl rfl ?_
      obtain ⟨c5, hf⟩ := oi_in hf
      refine j_tldN X F c5 dX11_bestRound_39 ?_
      refine j_icmp_ge (tgt := 120) X dX11_bestRound_40 (by decide) (fun c_40 => ?_) (fun c_40 => ?_)
      · replace hf := (if_pos c_40).symm.trans hf
        refine j_iload X dX11_bestRound_120 rfl ?_
        obtain rfl := Option.some.inj hf
        exact j_iret X hr hlk rfl dX11_bestRound_122 hQ
      · replace hf := (if_neg c_40).symm.trans hf
        refine j_aload_n X dX11_bestRound_43 rfl rfl ?_
        refine j_iload X dX11_bestRound_44 rfl ?_
        refine j_iload_n X dX11_bestRound_46 rfl rfl ?_
        obtain ⟨q6, g_q6, hf⟩ := ob_t hf
        refine j_callVF X F [0, 1, 2, 3, 4, 5, 6, 7, 8, 9, 10, 11, 12, 13, 14, 15, 16, 17, 18, 19, 20, 21, 22, 23, 24, 25, 26, 27, 28, 29, 30, 31, 32, 33, 34, 35, 36, 37, 38, 39, 40, 41, 42, 43, 44, 45, 46, 47, 48, 49, 50, 51, 52, 53, 54, 55, 56, 57, 58, 59, 60, 61, 62, 63, 64, 65, 66, 67, 68, 69, 70, 71, 72, 73, 74, 75, 76, 77, 78, 79, 80, 81, 82, 83, 84] 0 (c_X11_flyRow tn tt E h g g_q6) (cut_wX_wX_c ..) rfl rfl (ws' := (wX E h g q6)) (cut_wX_wX_w ..) (wX_0 ..) rfl k_685 k_687 k_19 k_68 k_688 (⟨rfl, rfl⟩) hdV_X11_flyRow ⟨Nat.le_of_ble_eq_true rfl, Nat.le_of_ble_eq_true rfl⟩ rfl (Nat.le_of_ble_eq_true rfl) rfl dX11_bestRound_47 ?_
        refine j_aload_n X dX11_bestRound_50 rfl rfl ?_
        refine j_get (C := RX11) (T := TX11) (N := 10) X iX11 0 (wX_0 ..) rfl 3 (by decide) k_313 rfl rfl dX11_bestRound_51 ?_
        refine j_iload_n X dX11_bestRound_54 rfl rfl ?_
        by_cases n_55_0 : x2 = (0 : Int32)
        · replace hf := (if_pos n_55_0).symm.trans hf
          refine j_aald3 X 65 (wX_65 ..) (b := h 41) (by rw [n_55_0]; unfold vp_in; decide) (by rw [n_55_0]; rfl) dX11_bestRound_55 ?_
          refine j_iload_n X dX11_bestRound_56 rfl rfl ?_
          obtain ⟨q7, g_q7, hf⟩ := ob_t hf
          obtain ⟨μ8, e_μ8, hf⟩ := bd_e hf
          refine j_callV X [41, 42, 43, 44, 45, 46, 7, 8, 9, 10, 11, 12, 13, 14, 66, 67, 68, 69, 70, 71, 72, 73] 0 (c_X4_stands E (fun j => h (List.getD [41, 42, 43, 44, 45, 46, 7, 8, 9, 10, 11, 12, 13, 14, 66, 67, 68, 69, 70, 71, 72, 73] j 0)) (fun j => g (List.getD [0, 1] j 0)) g_q7) (cut_wX_wR_41_42_43_c ..) rfl rfl (ws' := (wX E h g μ8)) (by rw [e_μ8]; exact cut_wX_wR_41_42_43_w ..) (wR_0 ..) rfl k_454 k_455 k_456 k_78 k_457 (⟨rfl, rfl⟩) hdV_X4_stands ⟨Nat.le_of_ble_eq_true rfl, Nat.le_of_ble_eq_true rfl⟩ rfl (Nat.le_of_ble_eq_true rfl) rfl dX11_bestRound_57 ?_
          refine j_if_eq (tgt := 66) X dX11_bestRound_60 (by decide) (fun c_60 => ?_) (fun c_60 => ?_)
          · replace hf := (if_pos c_60).symm.trans hf
            refine j_iload_n X dX11_bestRound_66 rfl rfl ?_
            refine j_iconst (v := (1 : Int32)) X dX11_bestRound_67 (by decide) ?_
            refine j_isub X dX11_bestRound_68 ?_
            refine j_aload_n X dX11_bestRound_69 rfl rfl ?_
            refine j_get (C := RX11) (T := TX11) (N := 10) X iX11 0 (wX_0 ..) rfl 3 (by decide) k_313 rfl rfl dX11_bestRound_70 ?_
            refine j_iload_n X dX11_bestRound_73 rfl rfl ?_
            by_cases n_74_0 : x2 = (0 : Int32)
            · replace hf := (if_pos n_74_0).symm.trans hf
              refine j_aald3 X 65 (wX_65 ..) (b := h 41) (by rw [n_74_0]; unfold vp_in; decide) (by rw [n_74_0]; rfl) dX11_bestRound_74 ?_
              obtain ⟨q9, g_q9, hf⟩ := ob_t hf
              obtain ⟨μ10, e_μ10, hf⟩ := bd_e hf
              refine j_callV X [41, 42, 43, 44, 45, 46, 7, 8, 9, 10, 11, 12, 13, 14, 66, 67, 68, 69, 70, 71, 72, 73] 0 (c_X4_howMany E (fun j => h (List.getD [41, 42, 43, 44, 45, 46, 7, 8, 9, 10, 11, 12, 13, 14, 66, 67, 68, 69, 70, 71, 72, 73] j 0)) (fun j => g (List.getD [0, 1] j 0)) g_q9) (cut_wX_wR_41_42_43_c ..) rfl rfl (ws' := (wX E h g μ10)) (by rw [e_μ10]; exact cut_wX_wR_41_42_43_w ..) (wR_0 ..) rfl k_649 k_650 k_651 k_78 k_652 (⟨rfl, rfl⟩) hdV_X4_howMany ⟨Nat.le_of_ble_eq_true rfl, Nat.le_of_ble_eq_true rfl⟩ rfl (Nat.le_of_ble_eq_true rfl) rfl dX11_bestRound_75 ?_
              refine j_isub X dX11_bestRound_78 ?_
              obtain ⟨y11, e_y11, hf⟩ := bd_e hf
              refine j_top e_y11 ?_
              refine j_istore6 X dX11_bestRound_79 (by decide) rfl ?_
              refine j_iload X dX11_bestRound_81 rfl ?_
              refine j_getsT X F k_689 dX11_bestRound_83 ?_
              refine j_iconst (v := (3 : Int32)) X dX11_bestRound_86 (by decide) ?_
              obtain ⟨c12, hf⟩ := oi_in hf
              refine j_tldT X F c12 dX11_bestRound_87 ?_
              refine j_imul X dX11_bestRound_88 ?_
              refine j_iload X dX11_bestRound_89 rfl ?_
              refine j_iload_n X dX11_bestRound_91 rfl rfl ?_
              obtain ⟨q13, g_q13, hf⟩ := ob_t hf
              refine j_callSF X F [] (c_X11_figures tn tt E g_q13) rfl rfl rfl (ws' := (wX E h g μ10)) rfl k_691 k_692 k_68 k_693 (⟨rfl, rfl⟩) hdS_X11_figures ⟨Nat.le_of_ble_eq_true rfl, Nat.le_of_ble_eq_true rfl⟩ rfl (Nat.le_of_ble_eq_true rfl) rfl dX11_bestRound_92 ?_
              refine j_iadd X dX11_bestRound_95 ?_
              obtain ⟨y14, e_y14, hf⟩ := bd_e hf
              refine j_top e_y14 ?_
              refine j_istore7 X dX11_bestRound_96 (by decide) rfl ?_
              refine j_iload X dX11_bestRound_98 rfl ?_
              refine j_if_lt (tgt := 110) X dX11_bestRound_100 (by decide) (fun c_100 => ?_) (fun c_100 => ?_)
              · replace hf := (if_pos c_100).symm.trans hf
                refine j_iload X dX11_bestRound_110 rfl ?_
                refine j_istore4 X dX11_bestRound_112 (by decide) rfl ?_
                refine j_iinc5 (k := (1 : Int32)) X dX11_bestRound_114 (by decide) (by decide) rfl ?_
                refine j_goto (tgt := 33) X dX11_bestRound_117 (by decide) ?_
                refine j_keep [true, true, true, true, true, true, false, false] rfl ?_
                exact ih _ _ _ _ _ _ hf
              · replace hf := (if_neg c_100).symm.trans hf
                refine j_iload X dX11_bestRound_103 rfl ?_
                refine j_iload X dX11_bestRound_105 rfl ?_
                refine j_icmp_ge (tgt := 114) X dX11_bestRound_107 (by decide) (fun c_107 => ?_) (fun c_107 => ?_)
                · replace hf := (if_pos c_107).symm.trans hf
                  refine j_iinc5 (k := (1 : Int32)) X dX11_bestRound_114 (by decide) (by decide) rfl ?_
                  refine j_goto (tgt := 33) X dX11_bestRound_117 (by decide) ?_
                  refine j_keep [true, true, true, true, true, true, false, false] rfl ?_
                  exact ih _ _ _ _ _ _ hf
                · replace hf := (if_neg c_107).symm.trans hf
                  refine j_iload X dX11_bestRound_110 rfl ?_
                  refine j_istore4 X dX11_bestRound_112 (by decide) rfl ?_
                  refine j_iinc5 (k := (1 : Int32)) X dX11_bestRound_114 (by decide) (by decide) rfl ?_
                  refine j_goto (tgt := 33) X dX11_bestRound_117 (by decide) ?_
                  refine j_keep [true, true, true, true, true, true, false, false] rfl ?_
                  exact ih _ _ _ _ _ _ hf
            · replace hf := (if_neg n_74_0).symm.trans hf
              by_cases n_74_1 : x2 = (1 : Int32)
              · replace hf := (if_pos n_74_1).symm.trans hf
                refine j_aald3 X 65 (wX_65 ..) (b := h 47) (by rw [n_74_1]; unfold vp_in; decide) (by rw [n_74_1]; rfl) dX11_bestRound_74 ?_
                obtain ⟨q15, g_q15, hf⟩ := ob_t hf
                obtain ⟨μ16, e_μ16, hf⟩ := bd_e hf
                refine j_callV X [47, 48, 49, 50, 51, 52, 7, 8, 9, 10, 11, 12, 13, 14, 66, 67, 68, 69, 70, 71, 72, 73] 0 (c_X4_howMany E (fun j => h (List.getD [47, 48, 49, 50, 51, 52, 7, 8, 9, 10, 11, 12, 13, 14, 66, 67, 68, 69, 70, 71, 72, 73] j 0)) (fun j => g (List.getD [0, 1] j 0)) g_q15) (cut_wX_wR_47_48_49_c ..) rfl rfl (ws' := (wX E h g μ16)) (by rw [e_μ16]; exact cut_wX_wR_47_48_49_w ..) (wR_0 ..) rfl k_649 k_650 k_651 k_78 k_652 (⟨rfl, rfl⟩) hdV_X4_howMany ⟨Nat.le_of_ble_eq_true rfl, Nat.le_of_ble_eq_true rfl⟩ rfl (Nat.le_of_ble_eq_true rfl) rfl dX11_bestRound_75 ?_
                refine j_isub X dX11_bestRound_78 ?_
                obtain ⟨y17, e_y17, hf⟩ := bd_e hf
                refine j_top e_y17 ?_
                refine j_istore6 X dX11_bestRound_79 (by decide) rfl ?_
                refine j_iload X dX11_bestRound_81 rfl ?_
                refine j_getsT X F k_689 dX11_bestRound_83 ?_
                refine j_iconst (v := (3 : Int32)) X dX11_bestRound_86 (by decide) ?_
                obtain ⟨c18, hf⟩ := oi_in hf
                refine j_tldT X F c18 dX11_bestRound_87 ?_
                refine j_imul X dX11_bestRound_88 ?_
                refine j_iload X dX11_bestRound_89 rfl ?_
                refine j_iload_n X dX11_bestRound_91 rfl rfl ?_
                obtain ⟨q19, g_q19, hf⟩ := ob_t hf
                refine j_callSF X F [] (c_X11_figures tn tt E g_q19) rfl rfl rfl (ws' := (wX E h g μ16)) rfl k_691 k_692 k_68 k_693 (⟨rfl, rfl⟩) hdS_X11_figures ⟨Nat.le_of_ble_eq_true rfl, Nat.le_of_ble_eq_true rfl⟩ rfl (Nat.le_of_ble_eq_true rfl) rfl dX11_bestRound_92 ?_
                refine j_iadd X dX11_bestRound_95 ?_
                obtain ⟨y20, e_y20, hf⟩ := bd_e hf
                refine j_top e_y20 ?_
                refine j_istore7 X dX11_bestRound_96 (by decide) rfl ?_
                refine j_iload X dX11_bestRound_98 rfl ?_
                refine j_if_lt (tgt := 110) X dX11_bestRound_100 (by decide) (fun c_100 => ?_) (fun c_100 => ?_)
                · replace hf := (if_pos c_100).symm.trans hf
                  refine j_iload X dX11_bestRound_110 rfl ?_
                  refine j_istore4 X dX11_bestRound_112 (by decide) rfl ?_
                  refine j_iinc5 (k := (1 : Int32)) X dX11_bestRound_114 (by decide) (by decide) rfl ?_
                  refine j_goto (tgt := 33) X dX11_bestRound_117 (by decide) ?_
                  refine j_keep [true, true, true, true, true, true, false, false] rfl ?_
                  exact ih _ _ _ _ _ _ hf
                · replace hf := (if_neg c_100).symm.trans hf
                  refine j_iload X dX11_bestRound_103 rfl ?_
                  refine j_iload X dX11_bestRound_105 rfl ?_
                  refine j_icmp_ge (tgt := 114) X dX11_bestRound_107 (by decide) (fun c_107 => ?_) (fun c_107 => ?_)
                  · replace hf := (if_pos c_107).symm.trans hf
                    refine j_iinc5 (k := (1 : Int32)) X dX11_bestRound_114 (by decide) (by decide) rfl ?_
                    refine j_goto (tgt := 33) X dX11_bestRound_117 (by decide) ?_
                    refine j_keep [true, true, true, true, true, true, false, false] rfl ?_
                    exact ih _ _ _ _ _ _ hf
                  · replace hf := (if_neg c_107).symm.trans hf
                    refine j_iload X dX11_bestRound_110 rfl ?_
                    refine j_istore4 X dX11_bestRound_112 (by decide) rfl ?_
                    refine j_iinc5 (k := (1 : Int32)) X dX11_bestRound_114 (by decide) (by decide) rfl ?_
                    refine j_goto (tgt := 33) X dX11_bestRound_117 (by decide) ?_
                    refine j_keep [true, true, true, true, true, true, false, false] rfl ?_
                    exact ih _ _ _ _ _ _ hf
              · replace hf := (if_neg n_74_1).symm.trans hf
                by_cases n_74_2 : x2 = (2 : Int32)
                · replace hf := (if_pos n_74_2).symm.trans hf
                  refine j_aald3 X 65 (wX_65 ..) (b := h 53) (by rw [n_74_2]; unfold vp_in; decide) (by rw [n_74_2]; rfl) dX11_bestRound_74 ?_
                  obtain ⟨q21, g_q21, hf⟩ := ob_t hf
                  obtain ⟨μ22, e_μ22, hf⟩ := bd_e hf
                  refine j_callV X [53, 54, 55, 56, 57, 58, 7, 8, 9, 10, 11, 12, 13, 14, 66, 67, 68, 69, 70, 71, 72, 73] 0 (c_X4_howMany E (fun j => h (List.getD [53, 54, 55, 56, 57, 58, 7, 8, 9, 10, 11, 12, 13, 14, 66, 67, 68, 69, 70, 71, 72, 73] j 0)) (fun j => g (List.getD [0, 1] j 0)) g_q21) (cut_wX_wR_53_54_55_c ..) rfl rfl (ws' := (wX E h g μ22)) (by rw [e_μ22]; exact cut_wX_wR_53_54_55_w ..) (wR_0 ..) rfl k_649 k_650 k_651 k_78 k_652 (⟨rfl, rfl⟩) hdV_X4_howMany ⟨Nat.le_of_ble_eq_true rfl, Nat.le_of_ble_eq_true rfl⟩ rfl (Nat.le_of_ble_eq_true rfl) rfl dX11_bestRound_75 ?_
                  refine j_isub X dX11_bestRound_78 ?_
                  obtain ⟨y23, e_y23, hf⟩ := bd_e hf
                  refine j_top e_y23 ?_
                  refine j_istore6 X dX11_bestRound_79 (by decide) rfl ?_
                  refine j_iload X dX11_bestRound_81 rfl ?_
                  refine j_getsT X F k_689 dX11_bestRound_83 ?_
                  refine j_iconst (v := (3 : Int32)) X dX11_bestRound_86 (by decide) ?_
                  obtain ⟨c24, hf⟩ := oi_in hf
                  refine j_tldT X F c24 dX11_bestRound_87 ?_
                  refine j_imul X dX11_bestRound_88 ?_
                  refine j_iload X dX11_bestRound_89 rfl ?_
                  refine j_iload_n X dX11_bestRound_91 rfl rfl ?_
                  obtain ⟨q25, g_q25, hf⟩ := ob_t hf
                  refine j_callSF X F [] (c_X11_figures tn tt E g_q25) rfl rfl rfl (ws' := (wX E h g μ22)) rfl k_691 k_692 k_68 k_693 (⟨rfl, rfl⟩) hdS_X11_figures ⟨Nat.le_of_ble_eq_true rfl, Nat.le_of_ble_eq_true rfl⟩ rfl (Nat.le_of_ble_eq_true rfl) rfl dX11_bestRound_92 ?_
                  refine j_iadd X dX11_bestRound_95 ?_
                  obtain ⟨y26, e_y26, hf⟩ := bd_e hf
                  refine j_top e_y26 ?_
                  refine j_istore7 X dX11_bestRound_96 (by decide) rfl ?_
                  refine j_iload X dX11_bestRound_98 rfl ?_
                  refine j_if_lt (tgt := 110) X dX11_bestRound_100 (by decide) (fun c_100 => ?_) (fun c_100 => ?_)
                  · replace hf := (if_pos c_100).symm.trans hf
                    refine j_iload X dX11_bestRound_110 rfl ?_
                    refine j_istore4 X dX11_bestRound_112 (by decide) rfl ?_
                    refine j_iinc5 (k := (1 : Int32)) X dX11_bestRound_114 (by decide) (by decide) rfl ?_
                    refine j_goto (tgt := 33) X dX11_bestRound_117 (by decide) ?_
                    refine j_keep [true, true, true, true, true, true, false, false] rfl ?_
                    exact ih _ _ _ _ _ _ hf
                  · replace hf := (if_neg c_100).symm.trans hf
                    refine j_iload X dX11_bestRound_103 rfl ?_
                    refine j_iload X dX11_bestRound_105 rfl ?_
                    refine j_icmp_ge (tgt := 114) X dX11_bestRound_107 (by decide) (fun c_107 => ?_) (fun c_107 => ?_)
                    · replace hf := (if_pos c_107).symm.trans hf
                      refine j_iinc5 (k := (1 : Int32)) X dX11_bestRound_114 (by decide) (by decide) rfl ?_
                      refine j_goto (tgt := 33) X dX11_bestRound_117 (by decide) ?_
                      refine j_keep [true, true, true, true, true, true, false, false] rfl ?_
                      exact ih _ _ _ _ _ _ hf
                    · replace hf := (if_neg c_107).symm.trans hf
                      refine j_iload X dX11_bestRound_110 rfl ?_
                      refine j_istore4 X dX11_bestRound_112 (by decide) rfl ?_
                      refine j_iinc5 (k := (1 : Int32)) X dX11_bestRound_114 (by decide) (by decide) rfl ?_
                      refine j_goto (tgt := 33) X dX11_bestRound_117 (by decide) ?_
                      refine j_keep [true, true, true, true, true, true, false, false] rfl ?_
                      exact ih _ _ _ _ _ _ hf
                · replace hf := (if_neg n_74_2).symm.trans hf
                  by_cases n_74_3 : x2 = (3 : Int32)
                  · replace hf := (if_pos n_74_3).symm.trans hf
                    refine j_aald3 X 65 (wX_65 ..) (b := h 59) (by rw [n_74_3]; unfold vp_in; decide) (by rw [n_74_3]; rfl) dX11_bestRound_74 ?_
                    obtain ⟨q27, g_q27, hf⟩ := ob_t hf
                    obtain ⟨μ28, e_μ28, hf⟩ := bd_e hf
                    refine j_callV X [59, 60, 61, 62, 63, 64, 7, 8, 9, 10, 11, 12, 13, 14, 66, 67, 68, 69, 70, 71, 72, 73] 0 (c_X4_howMany E (fun j => h (List.getD [59, 60, 61, 62, 63, 64, 7, 8, 9, 10, 11, 12, 13, 14, 66, 67, 68, 69, 70, 71, 72, 73] j 0)) (fun j => g (List.getD [0, 1] j 0)) g_q27) (cut_wX_wR_59_60_61_c ..) rfl rfl (ws' := (wX E h g μ28)) (by rw [e_μ28]; exact cut_wX_wR_59_60_61_w ..) (wR_0 ..) rfl k_649 k_650 k_651 k_78 k_652 (⟨rfl, rfl⟩) hdV_X4_howMany ⟨Nat.le_of_ble_eq_true rfl, Nat.le_of_ble_eq_true rfl⟩ rfl (Nat.le_of_ble_eq_true rfl) rfl dX11_bestRound_75 ?_
                    refine j_isub X dX11_bestRound_78 ?_
                    obtain ⟨y29, e_y29, hf⟩ := bd_e hf
                    refine j_top e_y29 ?_
                    refine j_istore6 X dX11_bestRound_79 (by decide) rfl ?_
                    refine j_iload X dX11_bestRound_81 rfl ?_
                    refine j_getsT X F k_689 dX11_bestRound_83 ?_
                    refine j_iconst (v := (3 : Int32)) X dX11_bestRound_86 (by decide) ?_
                    obtain ⟨c30, hf⟩ := oi_in hf
                    refine j_tldT X F c30 dX11_bestRound_87 ?_
                    refine j_imul X dX11_bestRound_88 ?_
                    refine j_iload X dX11_bestRound_89 rfl ?_
                    refine j_iload_n X dX11_bestRound_91 rfl rfl ?_
                    obtain ⟨q31, g_q31, hf⟩ := ob_t hf
                    refine j_callSF X F [] (c_X11_figures tn tt E g_q31) rfl rfl rfl (ws' := (wX E h g μ28)) rfl k_691 k_692 k_68 k_693 (⟨rfl, rfl⟩) hdS_X11_figures ⟨Nat.le_of_ble_eq_true rfl, Nat.le_of_ble_eq_true rfl⟩ rfl (Nat.le_of_ble_eq_true rfl) rfl dX11_bestRound_92 ?_
                    refine j_iadd X dX11_bestRound_95 ?_
                    obtain ⟨y32, e_y32, hf⟩ := bd_e hf
                    refine j_top e_y32 ?_
                    refine j_istore7 X dX11_bestRound_96 (by decide) rfl ?_
                    refine j_iload X dX11_bestRound_98 rfl ?_
                    refine j_if_lt (tgt := 110) X dX11_bestRound_100 (by decide) (fun c_100 => ?_) (fun c_100 => ?_)
                    · replace hf := (if_pos c_100).symm.trans hf
                      refine j_iload X dX11_bestRound_110 rfl ?_
                      refine j_istore4 X dX11_bestRound_112 (by decide) rfl ?_
                      refine j_iinc5 (k := (1 : Int32)) X dX11_bestRound_114 (by decide) (by decide) rfl ?_
                      refine j_goto (tgt := 33) X dX11_bestRound_117 (by decide) ?_
                      refine j_keep [true, true, true, true, true, true, false, false] rfl ?_
                      exact ih _ _ _ _ _ _ hf
                    · replace hf := (if_neg c_100).symm.trans hf
                      refine j_iload X dX11_bestRound_103 rfl ?_
                      refine j_iload X dX11_bestRound_105 rfl ?_
                      refine j_icmp_ge (tgt := 114) X dX11_bestRound_107 (by decide) (fun c_107 => ?_) (fun c_107 => ?_)
                      · replace hf := (if_pos c_107).symm.trans hf
                        refine j_iinc5 (k := (1 : Int32)) X dX11_bestRound_114 (by decide) (by decide) rfl ?_
                        refine j_goto (tgt := 33) X dX11_bestRound_117 (by decide) ?_
                        refine j_keep [true, true, true, true, true, true, false, false] rfl ?_
                        exact ih _ _ _ _ _ _ hf
                      · replace hf := (if_neg c_107).symm.trans hf
                        refine j_iload X dX11_bestRound_110 rfl ?_
                        refine j_istore4 X dX11_bestRound_112 (by decide) rfl ?_
                        refine j_iinc5 (k := (1 : Int32)) X dX11_bestRound_114 (by decide) (by decide) rfl ?_
                        refine j_goto (tgt := 33) X dX11_bestRound_117 (by decide) ?_
                        refine j_keep [true, true, true, true, true, true, false, false] rfl ?_
                        exact ih _ _ _ _ _ _ hf
                  · replace hf := (if_neg n_74_3).symm.trans hf
                    cases hf
          · replace hf := (if_neg c_60).symm.trans hf
            refine j_goto (tgt := 114) X dX11_bestRound_63 (by decide) ?_
            refine j_iinc5 (k := (1 : Int32)) X dX11_bestRound_114 (by decide) (by decide) rfl ?_
            refine j_goto (tgt := 33) X dX11_bestRound_117 (by decide) ?_
            refine j_keep [true, true, true, true, true, true, false, false] rfl ?_
            exact ih _ _ _ _ _ _ hf
        · replace hf := (if_neg n_55_0).symm.trans hf
          by_cases n_55_1 : x2 = (1 : Int32)
          · replace hf := (if_pos n_55_1).symm.trans hf
            refine j_aald3 X 65 (wX_65 ..) (b := h 47) (by rw [n_55_1]; unfold vp_in; decide) (by rw [n_55_1]; rfl) dX11_bestRound_55 ?_
            refine j_iload_n X dX11_bestRound_56 rfl rfl ?_
            obtain ⟨q33, g_q33, hf⟩ := ob_t hf
            obtain ⟨μ34, e_μ34, hf⟩ := bd_e hf
            refine j_callV X [47, 48, 49, 50, 51, 52, 7, 8, 9, 10, 11, 12, 13, 14, 66, 67, 68, 69, 70, 71, 72, 73] 0 (c_X4_stands E (fun j => h (List.getD [47, 48, 49, 50, 51, 52, 7, 8, 9, 10, 11, 12, 13, 14, 66, 67, 68, 69, 70, 71, 72, 73] j 0)) (fun j => g (List.getD [0, 1] j 0)) g_q33) (cut_wX_wR_47_48_49_c ..) rfl rfl (ws' := (wX E h g μ34)) (by rw [e_μ34]; exact cut_wX_wR_47_48_49_w ..) (wR_0 ..) rfl k_454 k_455 k_456 k_78 k_457 (⟨rfl, rfl⟩) hdV_X4_stands ⟨Nat.le_of_ble_eq_true rfl, Nat.le_of_ble_eq_true rfl⟩ rfl (Nat.le_of_ble_eq_true rfl) rfl dX11_bestRound_57 ?_
            refine j_if_eq (tgt := 66) X dX11_bestRound_60 (by decide) (fun c_60 => ?_) (fun c_60 => ?_)
            · replace hf := (if_pos c_60).symm.trans hf
              refine j_iload_n X dX11_bestRound_66 rfl rfl ?_
              refine j_iconst (v := (1 : Int32)) X dX11_bestRound_67 (by decide) ?_
              refine j_isub X dX11_bestRound_68 ?_
              refine j_aload_n X dX11_bestRound_69 rfl rfl ?_
              refine j_get (C := RX11) (T := TX11) (N := 10) X iX11 0 (wX_0 ..) rfl 3 (by decide) k_313 rfl rfl dX11_bestRound_70 ?_
              refine j_iload_n X dX11_bestRound_73 rfl rfl ?_
              by_cases n_74_0 : x2 = (0 : Int32)
              · replace hf := (if_pos n_74_0).symm.trans hf
                refine j_aald3 X 65 (wX_65 ..) (b := h 41) (by rw [n_74_0]; unfold vp_in; decide) (by rw [n_74_0]; rfl) dX11_bestRound_74 ?_
                obtain ⟨q35, g_q35, hf⟩ := ob_t hf
                obtain ⟨μ36, e_μ36, hf⟩ := bd_e hf
                refine j_callV X [41, 42, 43, 44, 45, 46, 7, 8, 9, 10, 11, 12, 13, 14, 66, 67, 68, 69, 70, 71, 72, 73] 0 (c_X4_howMany E (fun j => h (List.getD [41, 42, 43, 44, 45, 46, 7, 8, 9, 10, 11, 12, 13, 14, 66, 67, 68, 69, 70, 71, 72, 73] j 0)) (fun j => g (List.getD [0, 1] j 0)) g_q35) (cut_wX_wR_41_42_43_c ..) rfl rfl (ws' := (wX E h g μ36)) (by rw [e_μ36]; exact cut_wX_wR_41_42_43_w ..) (wR_0 ..) rfl k_649 k_650 k_651 k_78 k_652 (⟨rfl, rfl⟩) hdV_X4_howMany ⟨Nat.le_of_ble_eq_true rfl, Nat.le_of_ble_eq_true rfl⟩ rfl (Nat.le_of_ble_eq_true rfl) rfl dX11_bestRound_75 ?_
                refine j_isub X dX11_bestRound_78 ?_
                obtain ⟨y37, e_y37, hf⟩ := bd_e hf
                refine j_top e_y37 ?_
                refine j_istore6 X dX11_bestRound_79 (by decide) rfl ?_
                refine j_iload X dX11_bestRound_81 rfl ?_
                refine j_getsT X F k_689 dX11_bestRound_83 ?_
                refine j_iconst (v := (3 : Int32)) X dX11_bestRound_86 (by decide) ?_
                obtain ⟨c38, hf⟩ := oi_in hf
                refine j_tldT X F c38 dX11_bestRound_87 ?_
                refine j_imul X dX11_bestRound_88 ?_
                refine j_iload X dX11_bestRound_89 rfl ?_
                refine j_iload_n X dX11_bestRound_91 rfl rfl ?_
                obtain ⟨q39, g_q39, hf⟩ := ob_t hf
                refine j_callSF X F [] (c_X11_figures tn tt E g_q39) rfl rfl rfl (ws' := (wX E h g μ36)) rfl k_691 k_692 k_68 k_693 (⟨rfl, rfl⟩) hdS_X11_figures ⟨Nat.le_of_ble_eq_true rfl, Nat.le_of_ble_eq_true rfl⟩ rfl (Nat.le_of_ble_eq_true rfl) rfl dX11_bestRound_92 ?_
                refine j_iadd X dX11_bestRound_95 ?_
                obtain ⟨y40, e_y40, hf⟩ := bd_e hf
                refine j_top e_y40 ?_
                refine j_istore7 X dX11_bestRound_96 (by decide) rfl ?_
                refine j_iload X dX11_bestRound_98 rfl ?_
                refine j_if_lt (tgt := 110) X dX11_bestRound_100 (by decide) (fun c_100 => ?_) (fun c_100 => ?_)
                · replace hf := (if_pos c_100).symm.trans hf
                  refine j_iload X dX11_bestRound_110 rfl ?_
                  refine j_istore4 X dX11_bestRound_112 (by decide) rfl ?_
                  refine j_iinc5 (k := (1 : Int32)) X dX11_bestRound_114 (by decide) (by decide) rfl ?_
                  refine j_goto (tgt := 33) X dX11_bestRound_117 (by decide) ?_
                  refine j_keep [true, true, true, true, true, true, false, false] rfl ?_
                  exact ih _ _ _ _ _ _ hf
                · replace hf := (if_neg c_100).symm.trans hf
                  refine j_iload X dX11_bestRound_103 rfl ?_
                  refine j_iload X dX11_bestRound_105 rfl ?_
                  refine j_icmp_ge (tgt := 114) X dX11_bestRound_107 (by decide) (fun c_107 => ?_) (fun c_107 => ?_)
                  · replace hf := (if_pos c_107).symm.trans hf
                    refine j_iinc5 (k := (1 : Int32)) X dX11_bestRound_114 (by decide) (by decide) rfl ?_
                    refine j_goto (tgt := 33) X dX11_bestRound_117 (by decide) ?_
                    refine j_keep [true, true, true, true, true, true, false, false] rfl ?_
                    exact ih _ _ _ _ _ _ hf
                  · replace hf := (if_neg c_107).symm.trans hf
                    refine j_iload X dX11_bestRound_110 rfl ?_
                    refine j_istore4 X dX11_bestRound_112 (by decide) rfl ?_
                    refine j_iinc5 (k := (1 : Int32)) X dX11_bestRound_114 (by decide) (by decide) rfl ?_
                    refine j_goto (tgt := 33) X dX11_bestRound_117 (by decide) ?_
                    refine j_keep [true, true, true, true, true, true, false, false] rfl ?_
                    exact ih _ _ _ _ _ _ hf
              · replace hf := (if_neg n_74_0).symm.trans hf
                by_cases n_74_1 : x2 = (1 : Int32)
                · replace hf := (if_pos n_74_1).symm.trans hf
                  refine j_aald3 X 65 (wX_65 ..) (b := h 47) (by rw [n_74_1]; unfold vp_in; decide) (by rw [n_74_1]; rfl) dX11_bestRound_74 ?_
                  obtain ⟨q41, g_q41, hf⟩ := ob_t hf
                  obtain ⟨μ42, e_μ42, hf⟩ := bd_e hf
                  refine j_callV X [47, 48, 49, 50, 51, 52, 7, 8, 9, 10, 11, 12, 13, 14, 66, 67, 68, 69, 70, 71, 72, 73] 0 (c_X4_howMany E (fun j => h (List.getD [47, 48, 49, 50, 51, 52, 7, 8, 9, 10, 11, 12, 13, 14, 66, 67, 68, 69, 70, 71, 72, 73] j 0)) (fun j => g (List.getD [0, 1] j 0)) g_q41) (cut_wX_wR_47_48_49_c ..) rfl rfl (ws' := (wX E h g μ42)) (by rw [e_μ42]; exact cut_wX_wR_47_48_49_w ..) (wR_0 ..) rfl k_649 k_650 k_651 k_78 k_652 (⟨rfl, rfl⟩) hdV_X4_howMany ⟨Nat.le_of_ble_eq_true rfl, Nat.le_of_ble_eq_true rfl⟩ rfl (Nat.le_of_ble_eq_true rfl) rfl dX11_bestRound_75 ?_
                  refine j_isub X dX11_bestRound_78 ?_
                  obtain ⟨y43, e_y43, hf⟩ := bd_e hf
                  refine j_top e_y43 ?_
                  refine j_istore6 X dX11_bestRound_79 (by decide) rfl ?_
                  refine j_iload X dX11_bestRound_81 rfl ?_
                  refine j_getsT X F k_689 dX11_bestRound_83 ?_
                  refine j_iconst (v := (3 : Int32)) X dX11_bestRound_86 (by decide) ?_
                  obtain ⟨c44, hf⟩ := oi_in hf
                  refine j_tldT X F c44 dX11_bestRound_87 ?_
                  refine j_imul X dX11_bestRound_88 ?_
                  refine j_iload X dX11_bestRound_89 rfl ?_
                  refine j_iload_n X dX11_bestRound_91 rfl rfl ?_
                  obtain ⟨q45, g_q45, hf⟩ := ob_t hf
                  refine j_callSF X F [] (c_X11_figures tn tt E g_q45) rfl rfl rfl (ws' := (wX E h g μ42)) rfl k_691 k_692 k_68 k_693 (⟨rfl, rfl⟩) hdS_X11_figures ⟨Nat.le_of_ble_eq_true rfl, Nat.le_of_ble_eq_true rfl⟩ rfl (Nat.le_of_ble_eq_true rfl) rfl dX11_bestRound_92 ?_
                  refine j_iadd X dX11_bestRound_95 ?_
                  obtain ⟨y46, e_y46, hf⟩ := bd_e hf
                  refine j_top e_y46 ?_
                  refine j_istore7 X dX11_bestRound_96 (by decide) rfl ?_
                  refine j_iload X dX11_bestRound_98 rfl ?_
                  refine j_if_lt (tgt := 110) X dX11_bestRound_100 (by decide) (fun c_100 => ?_) (fun c_100 => ?_)
                  · replace hf := (if_pos c_100).symm.trans hf
                    refine j_iload X dX11_bestRound_110 rfl ?_
                    refine j_istore4 X dX11_bestRound_112 (by decide) rfl ?_
                    refine j_iinc5 (k := (1 : Int32)) X dX11_bestRound_114 (by decide) (by decide) rfl ?_
                    refine j_goto (tgt := 33) X dX11_bestRound_117 (by decide) ?_
                    refine j_keep [true, true, true, true, true, true, false, false] rfl ?_
                    exact ih _ _ _ _ _ _ hf
                  · replace hf := (if_neg c_100).symm.trans hf
                    refine j_iload X dX11_bestRound_103 rfl ?_
                    refine j_iload X dX11_bestRound_105 rfl ?_
                    refine j_icmp_ge (tgt := 114) X dX11_bestRound_107 (by decide) (fun c_107 => ?_) (fun c_107 => ?_)
                    · replace hf := (if_pos c_107).symm.trans hf
                      refine j_iinc5 (k := (1 : Int32)) X dX11_bestRound_114 (by decide) (by decide) rfl ?_
                      refine j_goto (tgt := 33) X dX11_bestRound_117 (by decide) ?_
                      refine j_keep [true, true, true, true, true, true, false, false] rfl ?_
                      exact ih _ _ _ _ _ _ hf
                    · replace hf := (if_neg c_107).symm.trans hf
                      refine j_iload X dX11_bestRound_110 rfl ?_
                      refine j_istore4 X dX11_bestRound_112 (by decide) rfl ?_
                      refine j_iinc5 (k := (1 : Int32)) X dX11_bestRound_114 (by decide) (by decide) rfl ?_
                      refine j_goto (tgt := 33) X dX11_bestRound_117 (by decide) ?_
                      refine j_keep [true, true, true, true, true, true, false, false] rfl ?_
                      exact ih _ _ _ _ _ _ hf
                · replace hf := (if_neg n_74_1).symm.trans hf
                  by_cases n_74_2 : x2 = (2 : Int32)
                  · replace hf := (if_pos n_74_2).symm.trans hf
                    refine j_aald3 X 65 (wX_65 ..) (b := h 53) (by rw [n_74_2]; unfold vp_in; decide) (by rw [n_74_2]; rfl) dX11_bestRound_74 ?_
                    obtain ⟨q47, g_q47, hf⟩ := ob_t hf
                    obtain ⟨μ48, e_μ48, hf⟩ := bd_e hf
                    refine j_callV X [53, 54, 55, 56, 57, 58, 7, 8, 9, 10, 11, 12, 13, 14, 66, 67, 68, 69, 70, 71, 72, 73] 0 (c_X4_howMany E (fun j => h (List.getD [53, 54, 55, 56, 57, 58, 7, 8, 9, 10, 11, 12, 13, 14, 66, 67, 68, 69, 70, 71, 72, 73] j 0)) (fun j => g (List.getD [0, 1] j 0)) g_q47) (cut_wX_wR_53_54_55_c ..) rfl rfl (ws' := (wX E h g μ48)) (by rw [e_μ48]; exact cut_wX_wR_53_54_55_w ..) (wR_0 ..) rfl k_649 k_650 k_651 k_78 k_652 (⟨rfl, rfl⟩) hdV_X4_howMany ⟨Nat.le_of_ble_eq_true rfl, Nat.le_of_ble_eq_true rfl⟩ rfl (Nat.le_of_ble_eq_true rfl) rfl dX11_bestRound_75 ?_
                    refine j_isub X dX11_bestRound_78 ?_
                    obtain ⟨y49, e_y49, hf⟩ := bd_e hf
                    refine j_top e_y49 ?_
                    refine j_istore6 X dX11_bestRound_79 (by decide) rfl ?_
                    refine j_iload X dX11_bestRound_81 rfl ?_
                    refine j_getsT X F k_689 dX11_bestRound_83 ?_
                    refine j_iconst (v := (3 : Int32)) X dX11_bestRound_86 (by decide) ?_
                    obtain ⟨c50, hf⟩ := oi_in hf
                    refine j_tldT X F c50 dX11_bestRound_87 ?_
                    refine j_imul X dX11_bestRound_88 ?_
                    refine j_iload X dX11_bestRound_89 rfl ?_
                    refine j_iload_n X dX11_bestRound_91 rfl rfl ?_
                    obtain ⟨q51, g_q51, hf⟩ := ob_t hf
                    refine j_callSF X F [] (c_X11_figures tn tt E g_q51) rfl rfl rfl (ws' := (wX E h g μ48)) rfl k_691 k_692 k_68 k_693 (⟨rfl, rfl⟩) hdS_X11_figures ⟨Nat.le_of_ble_eq_true rfl, Nat.le_of_ble_eq_true rfl⟩ rfl (Nat.le_of_ble_eq_true rfl) rfl dX11_bestRound_92 ?_
                    refine j_iadd X dX11_bestRound_95 ?_
                    obtain ⟨y52, e_y52, hf⟩ := bd_e hf
                    refine j_top e_y52 ?_
                    refine j_istore7 X dX11_bestRound_96 (by decide) rfl ?_
                    refine j_iload X dX11_bestRound_98 rfl ?_
                    refine j_if_lt (tgt := 110) X dX11_bestRound_100 (by decide) (fun c_100 => ?_) (fun c_100 => ?_)
                    · replace hf := (if_pos c_100).symm.trans hf
                      refine j_iload X dX11_bestRound_110 rfl ?_
                      refine j_istore4 X dX11_bestRound_112 (by decide) rfl ?_
                      refine j_iinc5 (k := (1 : Int32)) X dX11_bestRound_114 (by decide) (by decide) rfl ?_
                      refine j_goto (tgt := 33) X dX11_bestRound_117 (by decide) ?_
                      refine j_keep [true, true, true, true, true, true, false, false] rfl ?_
                      exact ih _ _ _ _ _ _ hf
                    · replace hf := (if_neg c_100).symm.trans hf
                      refine j_iload X dX11_bestRound_103 rfl ?_
                      refine j_iload X dX11_bestRound_105 rfl ?_
                      refine j_icmp_ge (tgt := 114) X dX11_bestRound_107 (by decide) (fun c_107 => ?_) (fun c_107 => ?_)
                      · replace hf := (if_pos c_107).symm.trans hf
                        refine j_iinc5 (k := (1 : Int32)) X dX11_bestRound_114 (by decide) (by decide) rfl ?_
                        refine j_goto (tgt := 33) X dX11_bestRound_117 (by decide) ?_
                        refine j_keep [true, true, true, true, true, true, false, false] rfl ?_
                        exact ih _ _ _ _ _ _ hf
                      · replace hf := (if_neg c_107).symm.trans hf
                        refine j_iload X dX11_bestRound_110 rfl ?_
                        refine j_istore4 X dX11_bestRound_112 (by decide) rfl ?_
                        refine j_iinc5 (k := (1 : Int32)) X dX11_bestRound_114 (by decide) (by decide) rfl ?_
                        refine j_goto (tgt := 33) X dX11_bestRound_117 (by decide) ?_
                        refine j_keep [true, true, true, true, true, true, false, false] rfl ?_
                        exact ih _ _ _ _ _ _ hf
                  · replace hf := (if_neg n_74_2).symm.trans hf
                    by_cases n_74_3 : x2 = (3 : Int32)
                    · replace hf := (if_pos n_74_3).symm.trans hf
                      refine j_aald3 X 65 (wX_65 ..) (b := h 59) (by rw [n_74_3]; unfold vp_in; decide) (by rw [n_74_3]; rfl) dX11_bestRound_74 ?_
                      obtain ⟨q53, g_q53, hf⟩ := ob_t hf
                      obtain ⟨μ54, e_μ54, hf⟩ := bd_e hf
                      refine j_callV X [59, 60, 61, 62, 63, 64, 7, 8, 9, 10, 11, 12, 13, 14, 66, 67, 68, 69, 70, 71, 72, 73] 0 (c_X4_howMany E (fun j => h (List.getD [59, 60, 61, 62, 63, 64, 7, 8, 9, 10, 11, 12, 13, 14, 66, 67, 68, 69, 70, 71, 72, 73] j 0)) (fun j => g (List.getD [0, 1] j 0)) g_q53) (cut_wX_wR_59_60_61_c ..) rfl rfl (ws' := (wX E h g μ54)) (by rw [e_μ54]; exact cut_wX_wR_59_60_61_w ..) (wR_0 ..) rfl k_649 k_650 k_651 k_78 k_652 (⟨rfl, rfl⟩) hdV_X4_howMany ⟨Nat.le_of_ble_eq_true rfl, Nat.le_of_ble_eq_true rfl⟩ rfl (Nat.le_of_ble_eq_true rfl) rfl dX11_bestRound_75 ?_
                      refine j_isub X dX11_bestRound_78 ?_
                      obtain ⟨y55, e_y55, hf⟩ := bd_e hf
                      refine j_top e_y55 ?_
                      refine j_istore6 X dX11_bestRound_79 (by decide) rfl ?_
                      refine j_iload X dX11_bestRound_81 rfl ?_
                      refine j_getsT X F k_689 dX11_bestRound_83 ?_
                      refine j_iconst (v := (3 : Int32)) X dX11_bestRound_86 (by decide) ?_
                      obtain ⟨c56, hf⟩ := oi_in hf
                      refine j_tldT X F c56 dX11_bestRound_87 ?_
                      refine j_imul X dX11_bestRound_88 ?_
                      refine j_iload X dX11_bestRound_89 rfl ?_
                      refine j_iload_n X dX11_bestRound_91 rfl rfl ?_
                      obtain ⟨q57, g_q57, hf⟩ := ob_t hf
                      refine j_callSF X F [] (c_X11_figures tn tt E g_q57) rfl rfl rfl (ws' := (wX E h g μ54)) rfl k_691 k_692 k_68 k_693 (⟨rfl, rfl⟩) hdS_X11_figures ⟨Nat.le_of_ble_eq_true rfl, Nat.le_of_ble_eq_true rfl⟩ rfl (Nat.le_of_ble_eq_true rfl) rfl dX11_bestRound_92 ?_
                      refine j_iadd X dX11_bestRound_95 ?_
                      obtain ⟨y58, e_y58, hf⟩ := bd_e hf
                      refine j_top e_y58 ?_
                      refine j_istore7 X dX11_bestRound_96 (by decide) rfl ?_
                      refine j_iload X dX11_bestRound_98 rfl ?_
                      refine j_if_lt (tgt := 110) X dX11_bestRound_100 (by decide) (fun c_100 => ?_) (fun c_100 => ?_)
                      · replace hf := (if_pos c_100).symm.trans hf
                        refine j_iload X dX11_bestRound_110 rfl ?_
                        refine j_istore4 X dX11_bestRound_112 (by decide) rfl ?_
                        refine j_iinc5 (k := (1 : Int32)) X dX11_bestRound_114 (by decide) (by decide) rfl ?_
                        refine j_goto (tgt := 33) X dX11_bestRound_117 (by decide) ?_
                        refine j_keep [true, true, true, true, true, true, false, false] rfl ?_
                        exact ih _ _ _ _ _ _ hf
                      · replace hf := (if_neg c_100).symm.trans hf
                        refine j_iload X dX11_bestRound_103 rfl ?_
                        refine j_iload X dX11_bestRound_105 rfl ?_
                        refine j_icmp_ge (tgt := 114) X dX11_bestRound_107 (by decide) (fun c_107 => ?_) (fun c_107 => ?_)
                        · replace hf := (if_pos c_107).symm.trans hf
                          refine j_iinc5 (k := (1 : Int32)) X dX11_bestRound_114 (by decide) (by decide) rfl ?_
                          refine j_goto (tgt := 33) X dX11_bestRound_117 (by decide) ?_
                          refine j_keep [true, true, true, true, true, true, false, false] rfl ?_
                          exact ih _ _ _ _ _ _ hf
                        · replace hf := (if_neg c_107).symm.trans hf
                          refine j_iload X dX11_bestRound_110 rfl ?_
                          refine j_istore4 X dX11_bestRound_112 (by decide) rfl ?_
                          refine j_iinc5 (k := (1 : Int32)) X dX11_bestRound_114 (by decide) (by decide) rfl ?_
                          refine j_goto (tgt := 33) X dX11_bestRound_117 (by decide) ?_
                          refine j_keep [true, true, true, true, true, true, false, false] rfl ?_
                          exact ih _ _ _ _ _ _ hf
                    · replace hf := (if_neg n_74_3).symm.trans hf
                      cases hf
            · replace hf := (if_neg c_60).symm.trans hf
              refine j_goto (tgt := 114) X dX11_bestRound_63 (by decide) ?_
              refine j_iinc5 (k := (1 : Int32)) X dX11_bestRound_114 (by decide) (by decide) rfl ?_
              refine j_goto (tgt := 33) X dX11_bestRound_117 (by decide) ?_
              refine j_keep [true, true, true, true, true, true, false, false] rfl ?_
              exact ih _ _ _ _ _ _ hf
          · replace hf := (if_neg n_55_1).symm.trans hf
            by_cases n_55_2 : x2 = (2 : Int32)
            · replace hf := (if_pos n_55_2).symm.trans hf
              refine j_aald3 X 65 (wX_65 ..) (b := h 53) (by rw [n_55_2]; unfold vp_in; decide) (by rw [n_55_2]; rfl) dX11_bestRound_55 ?_
              refine j_iload_n X dX11_bestRound_56 rfl rfl ?_
              obtain ⟨q59, g_q59, hf⟩ := ob_t hf
              obtain ⟨μ60, e_μ60, hf⟩ := bd_e hf
              refine j_callV X [53, 54, 55, 56, 57, 58, 7, 8, 9, 10, 11, 12, 13, 14, 66, 67, 68, 69, 70, 71, 72, 73] 0 (c_X4_stands E (fun j => h (List.getD [53, 54, 55, 56, 57, 58, 7, 8, 9, 10, 11, 12, 13, 14, 66, 67, 68, 69, 70, 71, 72, 73] j 0)) (fun j => g (List.getD [0, 1] j 0)) g_q59) (cut_wX_wR_53_54_55_c ..) rfl rfl (ws' := (wX E h g μ60)) (by rw [e_μ60]; exact cut_wX_wR_53_54_55_w ..) (wR_0 ..) rfl k_454 k_455 k_456 k_78 k_457 (⟨rfl, rfl⟩) hdV_X4_stands ⟨Nat.le_of_ble_eq_true rfl, Nat.le_of_ble_eq_true rfl⟩ rfl (Nat.le_of_ble_eq_true rfl) rfl dX11_bestRound_57 ?_
              refine j_if_eq (tgt := 66) X dX11_bestRound_60 (by decide) (fun c_60 => ?_) (fun c_60 => ?_)
              · replace hf := (if_pos c_60).symm.trans hf
                refine j_iload_n X dX11_bestRound_66 rfl rfl ?_
                refine j_iconst (v := (1 : Int32)) X dX11_bestRound_67 (by decide) ?_
                refine j_isub X dX11_bestRound_68 ?_
                refine j_aload_n X dX11_bestRound_69 rfl rfl ?_
                refine j_get (C := RX11) (T := TX11) (N := 10) X iX11 0 (wX_0 ..) rfl 3 (by decide) k_313 rfl rfl dX11_bestRound_70 ?_
                refine j_iload_n X dX11_bestRound_73 rfl rfl ?_
                by_cases n_74_0 : x2 = (0 : Int32)
                · replace hf := (if_pos n_74_0).symm.trans hf
                  refine j_aald3 X 65 (wX_65 ..) (b := h 41) (by rw [n_74_0]; unfold vp_in; decide) (by rw [n_74_0]; rfl) dX11_bestRound_74 ?_
                  obtain ⟨q61, g_q61, hf⟩ := ob_t hf
                  obtain ⟨μ62, e_μ62, hf⟩ := bd_e hf
                  refine j_callV X [41, 42, 43, 44, 45, 46, 7, 8, 9, 10, 11, 12, 13, 14, 66, 67, 68, 69, 70, 71, 72, 73] 0 (c_X4_howMany E (fun j => h (List.getD [41, 42, 43, 44, 45, 46, 7, 8, 9, 10, 11, 12, 13, 14, 66, 67, 68, 69, 70, 71, 72, 73] j 0)) (fun j => g (List.getD [0, 1] j 0)) g_q61) (cut_wX_wR_41_42_43_c ..) rfl rfl (ws' := (wX E h g μ62)) (by rw [e_μ62]; exact cut_wX_wR_41_42_43_w ..) (wR_0 ..) rfl k_649 k_650 k_651 k_78 k_652 (⟨rfl, rfl⟩) hdV_X4_howMany ⟨Nat.le_of_ble_eq_true rfl, Nat.le_of_ble_eq_true rfl⟩ rfl (Nat.le_of_ble_eq_true rfl) rfl dX11_bestRound_75 ?_
                  refine j_isub X dX11_bestRound_78 ?_
                  obtain ⟨y63, e_y63, hf⟩ := bd_e hf
                  refine j_top e_y63 ?_
                  refine j_istore6 X dX11_bestRound_79 (by decide) rfl ?_
                  refine j_iload X dX11_bestRound_81 rfl ?_
                  refine j_getsT X F k_689 dX11_bestRound_83 ?_
                  refine j_iconst (v := (3 : Int32)) X dX11_bestRound_86 (by decide) ?_
                  obtain ⟨c64, hf⟩ := oi_in hf
                  refine j_tldT X F c64 dX11_bestRound_87 ?_
                  refine j_imul X dX11_bestRound_88 ?_
                  refine j_iload X dX11_bestRound_89 rfl ?_
                  refine j_iload_n X dX11_bestRound_91 rfl rfl ?_
                  obtain ⟨q65, g_q65, hf⟩ := ob_t hf
                  refine j_callSF X F [] (c_X11_figures tn tt E g_q65) rfl rfl rfl (ws' := (wX E h g μ62)) rfl k_691 k_692 k_68 k_693 (⟨rfl, rfl⟩) hdS_X11_figures ⟨Nat.le_of_ble_eq_true rfl, Nat.le_of_ble_eq_true rfl⟩ rfl (Nat.le_of_ble_eq_true rfl) rfl dX11_bestRound_92 ?_
                  refine j_iadd X dX11_bestRound_95 ?_
                  obtain ⟨y66, e_y66, hf⟩ := bd_e hf
                  refine j_top e_y66 ?_
                  refine j_istore7 X dX11_bestRound_96 (by decide) rfl ?_
                  refine j_iload X dX11_bestRound_98 rfl ?_
                  refine j_if_lt (tgt := 110) X dX11_bestRound_100 (by decide) (fun c_100 => ?_) (fun c_100 => ?_)
                  · replace hf := (if_pos c_100).symm.trans hf
                    refine j_iload X dX11_bestRound_110 rfl ?_
                    refine j_istore4 X dX11_bestRound_112 (by decide) rfl ?_
                    refine j_iinc5 (k := (1 : Int32)) X dX11_bestRound_114 (by decide) (by decide) rfl ?_
                    refine j_goto (tgt := 33) X dX11_bestRound_117 (by decide) ?_
                    refine j_keep [true, true, true, true, true, true, false, false] rfl ?_
                    exact ih _ _ _ _ _ _ hf
                  · replace hf := (if_neg c_100).symm.trans hf
                    refine j_iload X dX11_bestRound_103 rfl ?_
                    refine j_iload X dX11_bestRound_105 rfl ?_
                    refine j_icmp_ge (tgt := 114) X dX11_bestRound_107 (by decide) (fun c_107 => ?_) (fun c_107 => ?_)
                    · replace hf := (if_pos c_107).symm.trans hf
                      refine j_iinc5 (k := (1 : Int32)) X dX11_bestRound_114 (by decide) (by decide) rfl ?_
                      refine j_goto (tgt := 33) X dX11_bestRound_117 (by decide) ?_
                      refine j_keep [true, true, true, true, true, true, false, false] rfl ?_
                      exact ih _ _ _ _ _ _ hf
                    · replace hf := (if_neg c_107).symm.trans hf
                      refine j_iload X dX11_bestRound_110 rfl ?_
                      refine j_istore4 X dX11_bestRound_112 (by decide) rfl ?_
                      refine j_iinc5 (k := (1 : Int32)) X dX11_bestRound_114 (by decide) (by decide) rfl ?_
                      refine j_goto (tgt := 33) X dX11_bestRound_117 (by decide) ?_
                      refine j_keep [true, true, true, true, true, true, false, false] rfl ?_
                      exact ih _ _ _ _ _ _ hf
                · replace hf := (if_neg n_74_0).symm.trans hf
                  by_cases n_74_1 : x2 = (1 : Int32)
                  · replace hf := (if_pos n_74_1).symm.trans hf
                    refine j_aald3 X 65 (wX_65 ..) (b := h 47) (by rw [n_74_1]; unfold vp_in; decide) (by rw [n_74_1]; rfl) dX11_bestRound_74 ?_
                    obtain ⟨q67, g_q67, hf⟩ := ob_t hf
                    obtain ⟨μ68, e_μ68, hf⟩ := bd_e hf
                    refine j_callV X [47, 48, 49, 50, 51, 52, 7, 8, 9, 10, 11, 12, 13, 14, 66, 67, 68, 69, 70, 71, 72, 73] 0 (c_X4_howMany E (fun j => h (List.getD [47, 48, 49, 50, 51, 52, 7, 8, 9, 10, 11, 12, 13, 14, 66, 67, 68, 69, 70, 71, 72, 73] j 0)) (fun j => g (List.getD [0, 1] j 0)) g_q67) (cut_wX_wR_47_48_49_c ..) rfl rfl (ws' := (wX E h g μ68)) (by rw [e_μ68]; exact cut_wX_wR_47_48_49_w ..) (wR_0 ..) rfl k_649 k_650 k_651 k_78 k_652 (⟨rfl, rfl⟩) hdV_X4_howMany ⟨Nat.le_of_ble_eq_true rfl, Nat.le_of_ble_eq_true rfl⟩ rfl (Nat.le_of_ble_eq_true rfl) rfl dX11_bestRound_75 ?_
                    refine j_isub X dX11_bestRound_78 ?_
                    obtain ⟨y69, e_y69, hf⟩ := bd_e hf
                    refine j_top e_y69 ?_
                    refine j_istore6 X dX11_bestRound_79 (by decide) rfl ?_
                    refine j_iload X dX11_bestRound_81 rfl ?_
                    refine j_getsT X F k_689 dX11_bestRound_83 ?_
                    refine j_iconst (v := (3 : Int32)) X dX11_bestRound_86 (by decide) ?_
                    obtain ⟨c70, hf⟩ := oi_in hf
                    refine j_tldT X F c70 dX11_bestRound_87 ?_
                    refine j_imul X dX11_bestRound_88 ?_
                    refine j_iload X dX11_bestRound_89 rfl ?_
                    refine j_iload_n X dX11_bestRound_91 rfl rfl ?_
                    obtain ⟨q71, g_q71, hf⟩ := ob_t hf
                    refine j_callSF X F [] (c_X11_figures tn tt E g_q71) rfl rfl rfl (ws' := (wX E h g μ68)) rfl k_691 k_692 k_68 k_693 (⟨rfl, rfl⟩) hdS_X11_figures ⟨Nat.le_of_ble_eq_true rfl, Nat.le_of_ble_eq_true rfl⟩ rfl (Nat.le_of_ble_eq_true rfl) rfl dX11_bestRound_92 ?_
                    refine j_iadd X dX11_bestRound_95 ?_
                    obtain ⟨y72, e_y72, hf⟩ := bd_e hf
                    refine j_top e_y72 ?_
                    refine j_istore7 X dX11_bestRound_96 (by decide) rfl ?_
                    refine j_iload X dX11_bestRound_98 rfl ?_
                    refine j_if_lt (tgt := 110) X dX11_bestRound_100 (by decide) (fun c_100 => ?_) (fun c_100 => ?_)
                    · replace hf := (if_pos c_100).symm.trans hf
                      refine j_iload X dX11_bestRound_110 rfl ?_
                      refine j_istore4 X dX11_bestRound_112 (by decide) rfl ?_
                      refine j_iinc5 (k := (1 : Int32)) X dX11_bestRound_114 (by decide) (by decide) rfl ?_
                      refine j_goto (tgt := 33) X dX11_bestRound_117 (by decide) ?_
                      refine j_keep [true, true, true, true, true, true, false, false] rfl ?_
                      exact ih _ _ _ _ _ _ hf
                    · replace hf := (if_neg c_100).symm.trans hf
                      refine j_iload X dX11_bestRound_103 rfl ?_
                      refine j_iload X dX11_bestRound_105 rfl ?_
                      refine j_icmp_ge (tgt := 114) X dX11_bestRound_107 (by decide) (fun c_107 => ?_) (fun c_107 => ?_)
                      · replace hf := (if_pos c_107).symm.trans hf
                        refine j_iinc5 (k := (1 : Int32)) X dX11_bestRound_114 (by decide) (by decide) rfl ?_
                        refine j_goto (tgt := 33) X dX11_bestRound_117 (by decide) ?_
                        refine j_keep [true, true, true, true, true, true, false, false] rfl ?_
                        exact ih _ _ _ _ _ _ hf
                      · replace hf := (if_neg c_107).symm.trans hf
                        refine j_iload X dX11_bestRound_110 rfl ?_
                        refine j_istore4 X dX11_bestRound_112 (by decide) rfl ?_
                        refine j_iinc5 (k := (1 : Int32)) X dX11_bestRound_114 (by decide) (by decide) rfl ?_
                        refine j_goto (tgt := 33) X dX11_bestRound_117 (by decide) ?_
                        refine j_keep [true, true, true, true, true, true, false, false] rfl ?_
                        exact ih _ _ _ _ _ _ hf
                  · replace hf := (if_neg n_74_1).symm.trans hf
                    by_cases n_74_2 : x2 = (2 : Int32)
                    · replace hf := (if_pos n_74_2).symm.trans hf
                      refine j_aald3 X 65 (wX_65 ..) (b := h 53) (by rw [n_74_2]; unfold vp_in; decide) (by rw [n_74_2]; rfl) dX11_bestRound_74 ?_
                      obtain ⟨q73, g_q73, hf⟩ := ob_t hf
                      obtain ⟨μ74, e_μ74, hf⟩ := bd_e hf
                      refine j_callV X [53, 54, 55, 56, 57, 58, 7, 8, 9, 10, 11, 12, 13, 14, 66, 67, 68, 69, 70, 71, 72, 73] 0 (c_X4_howMany E (fun j => h (List.getD [53, 54, 55, 56, 57, 58, 7, 8, 9, 10, 11, 12, 13, 14, 66, 67, 68, 69, 70, 71, 72, 73] j 0)) (fun j => g (List.getD [0, 1] j 0)) g_q73) (cut_wX_wR_53_54_55_c ..) rfl rfl (ws' := (wX E h g μ74)) (by rw [e_μ74]; exact cut_wX_wR_53_54_55_w ..) (wR_0 ..) rfl k_649 k_650 k_651 k_78 k_652 (⟨rfl, rfl⟩) hdV_X4_howMany ⟨Nat.le_of_ble_eq_true rfl, Nat.le_of_ble_eq_true rfl⟩ rfl (Nat.le_of_ble_eq_true rfl) rfl dX11_bestRound_75 ?_
                      refine j_isub X dX11_bestRound_78 ?_
                      obtain ⟨y75, e_y75, hf⟩ := bd_e hf
                      refine j_top e_y75 ?_
                      refine j_istore6 X dX11_bestRound_79 (by decide) rfl ?_
                      refine j_iload X dX11_bestRound_81 rfl ?_
                      refine j_getsT X F k_689 dX11_bestRound_83 ?_
                      refine j_iconst (v := (3 : Int32)) X dX11_bestRound_86 (by decide) ?_
                      obtain ⟨c76, hf⟩ := oi_in hf
                      refine j_tldT X F c76 dX11_bestRound_87 ?_
                      refine j_imul X dX11_bestRound_88 ?_
                      refine j_iload X dX11_bestRound_89 rfl ?_
                      refine j_iload_n X dX11_bestRound_91 rfl rfl ?_
                      obtain ⟨q77, g_q77, hf⟩ := ob_t hf
                      refine j_callSF X F [] (c_X11_figures tn tt E g_q77) rfl rfl rfl (ws' := (wX E h g μ74)) rfl k_691 k_692 k_68 k_693 (⟨rfl, rfl⟩) hdS_X11_figures ⟨Nat.le_of_ble_eq_true rfl, Nat.le_of_ble_eq_true rfl⟩ rfl (Nat.le_of_ble_eq_true rfl) rfl dX11_bestRound_92 ?_
                      refine j_iadd X dX11_bestRound_95 ?_
                      obtain ⟨y78, e_y78, hf⟩ := bd_e hf
                      refine j_top e_y78 ?_
                      refine j_istore7 X dX11_bestRound_96 (by decide) rfl ?_
                      refine j_iload X dX11_bestRound_98 rfl ?_
                      refine j_if_lt (tgt := 110) X dX11_bestRound_100 (by decide) (fun c_100 => ?_) (fun c_100 => ?_)
                      · replace hf := (if_pos c_100).symm.trans hf
                        refine j_iload X dX11_bestRound_110 rfl ?_
                        refine j_istore4 X dX11_bestRound_112 (by decide) rfl ?_
                        refine j_iinc5 (k := (1 : Int32)) X dX11_bestRound_114 (by decide) (by decide) rfl ?_
                        refine j_goto (tgt := 33) X dX11_bestRound_117 (by decide) ?_
                        refine j_keep [true, true, true, true, true, true, false, false] rfl ?_
                        exact ih _ _ _ _ _ _ hf
                      · replace hf := (if_neg c_100).symm.trans hf
                        refine j_iload X dX11_bestRound_103 rfl ?_
                        refine j_iload X dX11_bestRound_105 rfl ?_
                        refine j_icmp_ge (tgt := 114) X dX11_bestRound_107 (by decide) (fun c_107 => ?_) (fun c_107 => ?_)
                        · replace hf := (if_pos c_107).symm.trans hf
                          refine j_iinc5 (k := (1 : Int32)) X dX11_bestRound_114 (by decide) (by decide) rfl ?_
                          refine j_goto (tgt := 33) X dX11_bestRound_117 (by decide) ?_
                          refine j_keep [true, true, true, true, true, true, false, false] rfl ?_
                          exact ih _ _ _ _ _ _ hf
                        · replace hf := (if_neg c_107).symm.trans hf
                          refine j_iload X dX11_bestRound_110 rfl ?_
                          refine j_istore4 X dX11_bestRound_112 (by decide) rfl ?_
                          refine j_iinc5 (k := (1 : Int32)) X dX11_bestRound_114 (by decide) (by decide) rfl ?_
                          refine j_goto (tgt := 33) X dX11_bestRound_117 (by decide) ?_
                          refine j_keep [true, true, true, true, true, true, false, false] rfl ?_
                          exact ih _ _ _ _ _ _ hf
                    · replace hf := (if_neg n_74_2).symm.trans hf
                      by_cases n_74_3 : x2 = (3 : Int32)
                      · replace hf := (if_pos n_74_3).symm.trans hf
                        refine j_aald3 X 65 (wX_65 ..) (b := h 59) (by rw [n_74_3]; unfold vp_in; decide) (by rw [n_74_3]; rfl) dX11_bestRound_74 ?_
                        obtain ⟨q79, g_q79, hf⟩ := ob_t hf
                        obtain ⟨μ80, e_μ80, hf⟩ := bd_e hf
                        refine j_callV X [59, 60, 61, 62, 63, 64, 7, 8, 9, 10, 11, 12, 13, 14, 66, 67, 68, 69, 70, 71, 72, 73] 0 (c_X4_howMany E (fun j => h (List.getD [59, 60, 61, 62, 63, 64, 7, 8, 9, 10, 11, 12, 13, 14, 66, 67, 68, 69, 70, 71, 72, 73] j 0)) (fun j => g (List.getD [0, 1] j 0)) g_q79) (cut_wX_wR_59_60_61_c ..) rfl rfl (ws' := (wX E h g μ80)) (by rw [e_μ80]; exact cut_wX_wR_59_60_61_w ..) (wR_0 ..) rfl k_649 k_650 k_651 k_78 k_652 (⟨rfl, rfl⟩) hdV_X4_howMany ⟨Nat.le_of_ble_eq_true rfl, Nat.le_of_ble_eq_true rfl⟩ rfl (Nat.le_of_ble_eq_true rfl) rfl dX11_bestRound_75 ?_
                        refine j_isub X dX11_bestRound_78 ?_
                        obtain ⟨y81, e_y81, hf⟩ := bd_e hf
                        refine j_top e_y81 ?_
                        refine j_istore6 X dX11_bestRound_79 (by decide) rfl ?_
                        refine j_iload X dX11_bestRound_81 rfl ?_
                        refine j_getsT X F k_689 dX11_bestRound_83 ?_
                        refine j_iconst (v := (3 : Int32)) X dX11_bestRound_86 (by decide) ?_
                        obtain ⟨c82, hf⟩ := oi_in hf
                        refine j_tldT X F c82 dX11_bestRound_87 ?_
                        refine j_imul X dX11_bestRound_88 ?_
                        refine j_iload X dX11_bestRound_89 rfl ?_
                        refine j_iload_n X dX11_bestRound_91 rfl rfl ?_
                        obtain ⟨q83, g_q83, hf⟩ := ob_t hf
                        refine j_callSF X F [] (c_X11_figures tn tt E g_q83) rfl rfl rfl (ws' := (wX E h g μ80)) rfl k_691 k_692 k_68 k_693 (⟨rfl, rfl⟩) hdS_X11_figures ⟨Nat.le_of_ble_eq_true rfl, Nat.le_of_ble_eq_true rfl⟩ rfl (Nat.le_of_ble_eq_true rfl) rfl dX11_bestRound_92 ?_
                        refine j_iadd X dX11_bestRound_95 ?_
                        obtain ⟨y84, e_y84, hf⟩ := bd_e hf
                        refine j_top e_y84 ?_
                        refine j_istore7 X dX11_bestRound_96 (by decide) rfl ?_
                        refine j_iload X dX11_bestRound_98 rfl ?_
                        refine j_if_lt (tgt := 110) X dX11_bestRound_100 (by decide) (fun c_100 => ?_) (fun c_100 => ?_)
                        · replace hf := (if_pos c_100).symm.trans hf
                          refine j_iload X dX11_bestRound_110 rfl ?_
                          refine j_istore4 X dX11_bestRound_112 (by decide) rfl ?_
                          refine j_iinc5 (k := (1 : Int32)) X dX11_bestRound_114 (by decide) (by decide) rfl ?_
                          refine j_goto (tgt := 33) X dX11_bestRound_117 (by decide) ?_
                          refine j_keep [true, true, true, true, true, true, false, false] rfl ?_
                          exact ih _ _ _ _ _ _ hf
                        · replace hf := (if_neg c_100).symm.trans hf
                          refine j_iload X dX11_bestRound_103 rfl ?_
                          refine j_iload X dX11_bestRound_105 rfl ?_
                          refine j_icmp_ge (tgt := 114) X dX11_bestRound_107 (by decide) (fun c_107 => ?_) (fun c_107 => ?_)
                          · replace hf := (if_pos c_107).symm.trans hf
                            refine j_iinc5 (k := (1 : Int32)) X dX11_bestRound_114 (by decide) (by decide) rfl ?_
                            refine j_goto (tgt := 33) X dX11_bestRound_117 (by decide) ?_
                            refine j_keep [true, true, true, true, true, true, false, false] rfl ?_
                            exact ih _ _ _ _ _ _ hf
                          · replace hf := (if_neg c_107).symm.trans hf
                            refine j_iload X dX11_bestRound_110 rfl ?_
                            refine j_istore4 X dX11_bestRound_112 (by decide) rfl ?_
                            refine j_iinc5 (k := (1 : Int32)) X dX11_bestRound_114 (by decide) (by decide) rfl ?_
                            refine j_goto (tgt := 33) X dX11_bestRound_117 (by decide) ?_
                            refine j_keep [true, true, true, true, true, true, false, false] rfl ?_
                            exact ih _ _ _ _ _ _ hf
                      · replace hf := (if_neg n_74_3).symm.trans hf
                        cases hf
              · replace hf := (if_neg c_60).symm.trans hf
                refine j_goto (tgt := 114) X dX11_bestRound_63 (by decide) ?_
                refine j_iinc5 (k := (1 : Int32)) X dX11_bestRound_114 (by decide) (by decide) rfl ?_
                refine j_goto (tgt := 33) X dX11_bestRound_117 (by decide) ?_
                refine j_keep [true, true, true, true, true, true, false, false] rfl ?_
                exact ih _ _ _ _ _ _ hf
            · replace hf := (if_neg n_55_2).symm.trans hf
              by_cases n_55_3 : x2 = (3 : Int32)
              · replace hf := (if_pos n_55_3).symm.trans hf
                refine j_aald3 X 65 (wX_65 ..) (b := h 59) (by rw [n_55_3]; unfold vp_in; decide) (by rw [n_55_3]; rfl) dX11_bestRound_55 ?_
                refine j_iload_n X dX11_bestRound_56 rfl rfl ?_
                obtain ⟨q85, g_q85, hf⟩ := ob_t hf
                obtain ⟨μ86, e_μ86, hf⟩ := bd_e hf
                refine j_callV X [59, 60, 61, 62, 63, 64, 7, 8, 9, 10, 11, 12, 13, 14, 66, 67, 68, 69, 70, 71, 72, 73] 0 (c_X4_stands E (fun j => h (List.getD [59, 60, 61, 62, 63, 64, 7, 8, 9, 10, 11, 12, 13, 14, 66, 67, 68, 69, 70, 71, 72, 73] j 0)) (fun j => g (List.getD [0, 1] j 0)) g_q85) (cut_wX_wR_59_60_61_c ..) rfl rfl (ws' := (wX E h g μ86)) (by rw [e_μ86]; exact cut_wX_wR_59_60_61_w ..) (wR_0 ..) rfl k_454 k_455 k_456 k_78 k_457 (⟨rfl, rfl⟩) hdV_X4_stands ⟨Nat.le_of_ble_eq_true rfl, Nat.le_of_ble_eq_true rfl⟩ rfl (Nat.le_of_ble_eq_true rfl) rfl dX11_bestRound_57 ?_
                refine j_if_eq (tgt := 66) X dX11_bestRound_60 (by decide) (fun c_60 => ?_) (fun c_60 => ?_)
                · replace hf := (if_pos c_60).symm.trans hf
                  refine j_iload_n X dX11_bestRound_66 rfl rfl ?_
                  refine j_iconst (v := (1 : Int32)) X dX11_bestRound_67 (by decide) ?_
                  refine j_isub X dX11_bestRound_68 ?_
                  refine j_aload_n X dX11_bestRound_69 rfl rfl ?_
                  refine j_get (C := RX11) (T := TX11) (N := 10) X iX11 0 (wX_0 ..) rfl 3 (by decide) k_313 rfl rfl dX11_bestRound_70 ?_
                  refine j_iload_n X dX11_bestRound_73 rfl rfl ?_
                  by_cases n_74_0 : x2 = (0 : Int32)
                  · replace hf := (if_pos n_74_0).symm.trans hf
                    refine j_aald3 X 65 (wX_65 ..) (b := h 41) (by rw [n_74_0]; unfold vp_in; decide) (by rw [n_74_0]; rfl) dX11_bestRound_74 ?_
                    obtain ⟨q87, g_q87, hf⟩ := ob_t hf
                    obtain ⟨μ88, e_μ88, hf⟩ := bd_e hf
                    refine j_callV X [41, 42, 43, 44, 45, 46, 7, 8, 9, 10, 11, 12, 13, 14, 66, 67, 68, 69, 70, 71, 72, 73] 0 (c_X4_howMany E (fun j => h (List.getD [41, 42, 43, 44, 45, 46, 7, 8, 9, 10, 11, 12, 13, 14, 66, 67, 68, 69, 70, 71, 72, 73] j 0)) (fun j => g (List.getD [0, 1] j 0)) g_q87) (cut_wX_wR_41_42_43_c ..) rfl rfl (ws' := (wX E h g μ88)) (by rw [e_μ88]; exact cut_wX_wR_41_42_43_w ..) (wR_0 ..) rfl k_649 k_650 k_651 k_78 k_652 (⟨rfl, rfl⟩) hdV_X4_howMany ⟨Nat.le_of_ble_eq_true rfl, Nat.le_of_ble_eq_true rfl⟩ rfl (Nat.le_of_ble_eq_true rfl) rfl dX11_bestRound_75 ?_
                    refine j_isub X dX11_bestRound_78 ?_
                    obtain ⟨y89, e_y89, hf⟩ := bd_e hf
                    refine j_top e_y89 ?_
                    refine j_istore6 X dX11_bestRound_79 (by decide) rfl ?_
                    refine j_iload X dX11_bestRound_81 rfl ?_
                    refine j_getsT X F k_689 dX11_bestRound_83 ?_
                    refine j_iconst (v := (3 : Int32)) X dX11_bestRound_86 (by decide) ?_
                    obtain ⟨c90, hf⟩ := oi_in hf
                    refine j_tldT X F c90 dX11_bestRound_87 ?_
                    refine j_imul X dX11_bestRound_88 ?_
                    refine j_iload X dX11_bestRound_89 rfl ?_
                    refine j_iload_n X dX11_bestRound_91 rfl rfl ?_
                    obtain ⟨q91, g_q91, hf⟩ := ob_t hf
                    refine j_callSF X F [] (c_X11_figures tn tt E g_q91) rfl rfl rfl (ws' := (wX E h g μ88)) rfl k_691 k_692 k_68 k_693 (⟨rfl, rfl⟩) hdS_X11_figures ⟨Nat.le_of_ble_eq_true rfl, Nat.le_of_ble_eq_true rfl⟩ rfl (Nat.le_of_ble_eq_true rfl) rfl dX11_bestRound_92 ?_
                    refine j_iadd X dX11_bestRound_95 ?_
                    obtain ⟨y92, e_y92, hf⟩ := bd_e hf
                    refine j_top e_y92 ?_
                    refine j_istore7 X dX11_bestRound_96 (by decide) rfl ?_
                    refine j_iload X dX11_bestRound_98 rfl ?_
                    refine j_if_lt (tgt := 110) X dX11_bestRound_100 (by decide) (fun c_100 => ?_) (fun c_100 => ?_)
                    · replace hf := (if_pos c_100).symm.trans hf
                      refine j_iload X dX11_bestRound_110 rfl ?_
                      refine j_istore4 X dX11_bestRound_112 (by decide) rfl ?_
                      refine j_iinc5 (k := (1 : Int32)) X dX11_bestRound_114 (by decide) (by decide) rfl ?_
                      refine j_goto (tgt := 33) X dX11_bestRound_117 (by decide) ?_
                      refine j_keep [true, true, true, true, true, true, false, false] rfl ?_
                      exact ih _ _ _ _ _ _ hf
                    · replace hf := (if_neg c_100).symm.trans hf
                      refine j_iload X dX11_bestRound_103 rfl ?_
                      refine j_iload X dX11_bestRound_105 rfl ?_
                      refine j_icmp_ge (tgt := 114) X dX11_bestRound_107 (by decide) (fun c_107 => ?_) (fun c_107 => ?_)
                      · replace hf := (if_pos c_107).symm.trans hf
                        refine j_iinc5 (k := (1 : Int32)) X dX11_bestRound_114 (by decide) (by decide) rfl ?_
                        refine j_goto (tgt := 33) X dX11_bestRound_117 (by decide) ?_
                        refine j_keep [true, true, true, true, true, true, false, false] rfl ?_
                        exact ih _ _ _ _ _ _ hf
                      · replace hf := (if_neg c_107).symm.trans hf
                        refine j_iload X dX11_bestRound_110 rfl ?_
                        refine j_istore4 X dX11_bestRound_112 (by decide) rfl ?_
                        refine j_iinc5 (k := (1 : Int32)) X dX11_bestRound_114 (by decide) (by decide) rfl ?_
                        refine j_goto (tgt := 33) X dX11_bestRound_117 (by decide) ?_
                        refine j_keep [true, true, true, true, true, true, false, false] rfl ?_
                        exact ih _ _ _ _ _ _ hf
                  · replace hf := (if_neg n_74_0).symm.trans hf
                    by_cases n_74_1 : x2 = (1 : Int32)
                    · replace hf := (if_pos n_74_1).symm.trans hf
                      refine j_aald3 X 65 (wX_65 ..) (b := h 47) (by rw [n_74_1]; unfold vp_in; decide) (by rw [n_74_1]; rfl) dX11_bestRound_74 ?_
                      obtain ⟨q93, g_q93, hf⟩ := ob_t hf
                      obtain ⟨μ94, e_μ94, hf⟩ := bd_e hf
                      refine j_callV X [47, 48, 49, 50, 51, 52, 7, 8, 9, 10, 11, 12, 13, 14, 66, 67, 68, 69, 70, 71, 72, 73] 0 (c_X4_howMany E (fun j => h (List.getD [47, 48, 49, 50, 51, 52, 7, 8, 9, 10, 11, 12, 13, 14, 66, 67, 68, 69, 70, 71, 72, 73] j 0)) (fun j => g (List.getD [0, 1] j 0)) g_q93) (cut_wX_wR_47_48_49_c ..) rfl rfl (ws' := (wX E h g μ94)) (by rw [e_μ94]; exact cut_wX_wR_47_48_49_w ..) (wR_0 ..) rfl k_649 k_650 k_651 k_78 k_652 (⟨rfl, rfl⟩) hdV_X4_howMany ⟨Nat.le_of_ble_eq_true rfl, Nat.le_of_ble_eq_true rfl⟩ rfl (Nat.le_of_ble_eq_true rfl) rfl dX11_bestRound_75 ?_
                      refine j_isub X dX11_bestRound_78 ?_
                      obtain ⟨y95, e_y95, hf⟩ := bd_e hf
                      refine j_top e_y95 ?_
                      refine j_istore6 X dX11_bestRound_79 (by decide) rfl ?_
                      refine j_iload X dX11_bestRound_81 rfl ?_
                      refine j_getsT X F k_689 dX11_bestRound_83 ?_
                      refine j_iconst (v := (3 : Int32)) X dX11_bestRound_86 (by decide) ?_
                      obtain ⟨c96, hf⟩ := oi_in hf
                      refine j_tldT X F c96 dX11_bestRound_87 ?_
                      refine j_imul X dX11_bestRound_88 ?_
                      refine j_iload X dX11_bestRound_89 rfl ?_
                      refine j_iload_n X dX11_bestRound_91 rfl rfl ?_
                      obtain ⟨q97, g_q97, hf⟩ := ob_t hf
                      refine j_callSF X F [] (c_X11_figures tn tt E g_q97) rfl rfl rfl (ws' := (wX E h g μ94)) rfl k_691 k_692 k_68 k_693 (⟨rfl, rfl⟩) hdS_X11_figures ⟨Nat.le_of_ble_eq_true rfl, Nat.le_of_ble_eq_true rfl⟩ rfl (Nat.le_of_ble_eq_true rfl) rfl dX11_bestRound_92 ?_
                      refine j_iadd X dX11_bestRound_95 ?_
                      obtain ⟨y98, e_y98, hf⟩ := bd_e hf
                      refine j_top e_y98 ?_
                      refine j_istore7 X dX11_bestRound_96 (by decide) rfl ?_
                      refine j_iload X dX11_bestRound_98 rfl ?_
                      refine j_if_lt (tgt := 110) X dX11_bestRound_100 (by decide) (fun c_100 => ?_) (fun c_100 => ?_)
                      · replace hf := (if_pos c_100).symm.trans hf
                        refine j_iload X dX11_bestRound_110 rfl ?_
                        refine j_istore4 X dX11_bestRound_112 (by decide) rfl ?_
                        refine j_iinc5 (k := (1 : Int32)) X dX11_bestRound_114 (by decide) (by decide) rfl ?_
                        refine j_goto (tgt := 33) X dX11_bestRound_117 (by decide) ?_
                        refine j_keep [true, true, true, true, true, true, false, false] rfl ?_
                        exact ih _ _ _ _ _ _ hf
                      · replace hf := (if_neg c_100).symm.trans hf
                        refine j_iload X dX11_bestRound_103 rfl ?_
                        refine j_iload X dX11_bestRound_105 rfl ?_
                        refine j_icmp_ge (tgt := 114) X dX11_bestRound_107 (by decide) (fun c_107 => ?_) (fun c_107 => ?_)
                        · replace hf := (if_pos c_107).symm.trans hf
                          refine j_iinc5 (k := (1 : Int32)) X dX11_bestRound_114 (by decide) (by decide) rfl ?_
                          refine j_goto (tgt := 33) X dX11_bestRound_117 (by decide) ?_
                          refine j_keep [true, true, true, true, true, true, false, false] rfl ?_
                          exact ih _ _ _ _ _ _ hf
                        · replace hf := (if_neg c_107).symm.trans hf
                          refine j_iload X dX11_bestRound_110 rfl ?_
                          refine j_istore4 X dX11_bestRound_112 (by decide) rfl ?_
                          refine j_iinc5 (k := (1 : Int32)) X dX11_bestRound_114 (by decide) (by decide) rfl ?_
                          refine j_goto (tgt := 33) X dX11_bestRound_117 (by decide) ?_
                          refine j_keep [true, true, true, true, true, true, false, false] rfl ?_
                          exact ih _ _ _ _ _ _ hf
                    · replace hf := (if_neg n_74_1).symm.trans hf
                      by_cases n_74_2 : x2 = (2 : Int32)
                      · replace hf := (if_pos n_74_2).symm.trans hf
                        refine j_aald3 X 65 (wX_65 ..) (b := h 53) (by rw [n_74_2]; unfold vp_in; decide) (by rw [n_74_2]; rfl) dX11_bestRound_74 ?_
                        obtain ⟨q99, g_q99, hf⟩ := ob_t hf
                        obtain ⟨μ100, e_μ100, hf⟩ := bd_e hf
                        refine j_callV X [53, 54, 55, 56, 57, 58, 7, 8, 9, 10, 11, 12, 13, 14, 66, 67, 68, 69, 70, 71, 72, 73] 0 (c_X4_howMany E (fun j => h (List.getD [53, 54, 55, 56, 57, 58, 7, 8, 9, 10, 11, 12, 13, 14, 66, 67, 68, 69, 70, 71, 72, 73] j 0)) (fun j => g (List.getD [0, 1] j 0)) g_q99) (cut_wX_wR_53_54_55_c ..) rfl rfl (ws' := (wX E h g μ100)) (by rw [e_μ100]; exact cut_wX_wR_53_54_55_w ..) (wR_0 ..) rfl k_649 k_650 k_651 k_78 k_652 (⟨rfl, rfl⟩) hdV_X4_howMany ⟨Nat.le_of_ble_eq_true rfl, Nat.le_of_ble_eq_true rfl⟩ rfl (Nat.le_of_ble_eq_true rfl) rfl dX11_bestRound_75 ?_
                        refine j_isub X dX11_bestRound_78 ?_
                        obtain ⟨y101, e_y101, hf⟩ := bd_e hf
                        refine j_top e_y101 ?_
                        refine j_istore6 X dX11_bestRound_79 (by decide) rfl ?_
                        refine j_iload X dX11_bestRound_81 rfl ?_
                        refine j_getsT X F k_689 dX11_bestRound_83 ?_
                        refine j_iconst (v := (3 : Int32)) X dX11_bestRound_86 (by decide) ?_
                        obtain ⟨c102, hf⟩ := oi_in hf
                        refine j_tldT X F c102 dX11_bestRound_87 ?_
                        refine j_imul X dX11_bestRound_88 ?_
                        refine j_iload X dX11_bestRound_89 rfl ?_
                        refine j_iload_n X dX11_bestRound_91 rfl rfl ?_
                        obtain ⟨q103, g_q103, hf⟩ := ob_t hf
                        refine j_callSF X F [] (c_X11_figures tn tt E g_q103) rfl rfl rfl (ws' := (wX E h g μ100)) rfl k_691 k_692 k_68 k_693 (⟨rfl, rfl⟩) hdS_X11_figures ⟨Nat.le_of_ble_eq_true rfl, Nat.le_of_ble_eq_true rfl⟩ rfl (Nat.le_of_ble_eq_true rfl) rfl dX11_bestRound_92 ?_
                        refine j_iadd X dX11_bestRound_95 ?_
                        obtain ⟨y104, e_y104, hf⟩ := bd_e hf
                        refine j_top e_y104 ?_
                        refine j_istore7 X dX11_bestRound_96 (by decide) rfl ?_
                        refine j_iload X dX11_bestRound_98 rfl ?_
                        refine j_if_lt (tgt := 110) X dX11_bestRound_100 (by decide) (fun c_100 => ?_) (fun c_100 => ?_)
                        · replace hf := (if_pos c_100).symm.trans hf
                          refine j_iload X dX11_bestRound_110 rfl ?_
                          refine j_istore4 X dX11_bestRound_112 (by decide) rfl ?_
                          refine j_iinc5 (k := (1 : Int32)) X dX11_bestRound_114 (by decide) (by decide) rfl ?_
                          refine j_goto (tgt := 33) X dX11_bestRound_117 (by decide) ?_
                          refine j_keep [true, true, true, true, true, true, false, false] rfl ?_
                          exact ih _ _ _ _ _ _ hf
                        · replace hf := (if_neg c_100).symm.trans hf
                          refine j_iload X dX11_bestRound_103 rfl ?_
                          refine j_iload X dX11_bestRound_105 rfl ?_
                          refine j_icmp_ge (tgt := 114) X dX11_bestRound_107 (by decide) (fun c_107 => ?_) (fun c_107 => ?_)
                          · replace hf := (if_pos c_107).symm.trans hf
                            refine j_iinc5 (k := (1 : Int32)) X dX11_bestRound_114 (by decide) (by decide) rfl ?_
                            refine j_goto (tgt := 33) X dX11_bestRound_117 (by decide) ?_
                            refine j_keep [true, true, true, true, true, true, false, false] rfl ?_
                            exact ih _ _ _ _ _ _ hf
                          · replace hf := (if_neg c_107).symm.trans hf
                            refine j_iload X dX11_bestRound_110 rfl ?_
                            refine j_istore4 X dX11_bestRound_112 (by decide) rfl ?_
                            refine j_iinc5 (k := (1 : Int32)) X dX11_bestRound_114 (by decide) (by decide) rfl ?_
                            refine j_goto (tgt := 33) X dX11_bestRound_117 (by decide) ?_
                            refine j_keep [true, true, true, true, true, true, false, false] rfl ?_
                            exact ih _ _ _ _ _ _ hf
                      · replace hf := (if_neg n_74_2).symm.trans hf
                        by_cases n_74_3 : x2 = (3 : Int32)
                        · replace hf := (if_pos n_74_3).symm.trans hf
                          refine j_aald3 X 65 (wX_65 ..) (b := h 59) (by rw [n_74_3]; unfold vp_in; decide) (by rw [n_74_3]; rfl) dX11_bestRound_74 ?_
                          obtain ⟨q105, g_q105, hf⟩ := ob_t hf
                          obtain ⟨μ106, e_μ106, hf⟩ := bd_e hf
                          refine j_callV X [59, 60, 61, 62, 63, 64, 7, 8, 9, 10, 11, 12, 13, 14, 66, 67, 68, 69, 70, 71, 72, 73] 0 (c_X4_howMany E (fun j => h (List.getD [59, 60, 61, 62, 63, 64, 7, 8, 9, 10, 11, 12, 13, 14, 66, 67, 68, 69, 70, 71, 72, 73] j 0)) (fun j => g (List.getD [0, 1] j 0)) g_q105) (cut_wX_wR_59_60_61_c ..) rfl rfl (ws' := (wX E h g μ106)) (by rw [e_μ106]; exact cut_wX_wR_59_60_61_w ..) (wR_0 ..) rfl k_649 k_650 k_651 k_78 k_652 (⟨rfl, rfl⟩) hdV_X4_howMany ⟨Nat.le_of_ble_eq_true rfl, Nat.le_of_ble_eq_true rfl⟩ rfl (Nat.le_of_ble_eq_true rfl) rfl dX11_bestRound_75 ?_
                          refine j_isub X dX11_bestRound_78 ?_
                          obtain ⟨y107, e_y107, hf⟩ := bd_e hf
                          refine j_top e_y107 ?_
                          refine j_istore6 X dX11_bestRound_79 (by decide) rfl ?_
                          refine j_iload X dX11_bestRound_81 rfl ?_
                          refine j_getsT X F k_689 dX11_bestRound_83 ?_
                          refine j_iconst (v := (3 : Int32)) X dX11_bestRound_86 (by decide) ?_
                          obtain ⟨c108, hf⟩ := oi_in hf
                          refine j_tldT X F c108 dX11_bestRound_87 ?_
                          refine j_imul X dX11_bestRound_88 ?_
                          refine j_iload X dX11_bestRound_89 rfl ?_
                          refine j_iload_n X dX11_bestRound_91 rfl rfl ?_
                          obtain ⟨q109, g_q109, hf⟩ := ob_t hf
                          refine j_callSF X F [] (c_X11_figures tn tt E g_q109) rfl rfl rfl (ws' := (wX E h g μ106)) rfl k_691 k_692 k_68 k_693 (⟨rfl, rfl⟩) hdS_X11_figures ⟨Nat.le_of_ble_eq_true rfl, Nat.le_of_ble_eq_true rfl⟩ rfl (Nat.le_of_ble_eq_true rfl) rfl dX11_bestRound_92 ?_
                          refine j_iadd X dX11_bestRound_95 ?_
                          obtain ⟨y110, e_y110, hf⟩ := bd_e hf
                          refine j_top e_y110 ?_
                          refine j_istore7 X dX11_bestRound_96 (by decide) rfl ?_
                          refine j_iload X dX11_bestRound_98 rfl ?_
                          refine j_if_lt (tgt := 110) X dX11_bestRound_100 (by decide) (fun c_100 => ?_) (fun c_100 => ?_)
                          · replace hf := (if_pos c_100).symm.trans hf
                            refine j_iload X dX11_bestRound_110 rfl ?_
                            refine j_istore4 X dX11_bestRound_112 (by decide) rfl ?_
                            refine j_iinc5 (k := (1 : Int32)) X dX11_bestRound_114 (by decide) (by decide) rfl ?_
                            refine j_goto (tgt := 33) X dX11_bestRound_117 (by decide) ?_
                            refine j_keep [true, true, true, true, true, true, false, false] rfl ?_
                            exact ih _ _ _ _ _ _ hf
                          · replace hf := (if_neg c_100).symm.trans hf
                            refine j_iload X dX11_bestRound_103 rfl ?_
                            refine j_iload X dX11_bestRound_105 rfl ?_
                            refine j_icmp_ge (tgt := 114) X dX11_bestRound_107 (by decide) (fun c_107 => ?_) (fun c_107 => ?_)
                            · replace hf := (if_pos c_107).symm.trans hf
                              refine j_iinc5 (k := (1 : Int32)) X dX11_bestRound_114 (by decide) (by decide) rfl ?_
                              refine j_goto (tgt := 33) X dX11_bestRound_117 (by decide) ?_
                              refine j_keep [true, true, true, true, true, true, false, false] rfl ?_
                              exact ih _ _ _ _ _ _ hf
                            · replace hf := (if_neg c_107).symm.trans hf
                              refine j_iload X dX11_bestRound_110 rfl ?_
                              refine j_istore4 X dX11_bestRound_112 (by decide) rfl ?_
                              refine j_iinc5 (k := (1 : Int32)) X dX11_bestRound_114 (by decide) (by decide) rfl ?_
                              refine j_goto (tgt := 33) X dX11_bestRound_117 (by decide) ?_
                              refine j_keep [true, true, true, true, true, true, false, false] rfl ?_
                              exact ih _ _ _ _ _ _ hf
                        · replace hf := (if_neg n_74_3).symm.trans hf
                          cases hf
                · replace hf := (if_neg c_60).symm.trans hf
                  refine j_goto (tgt := 114) X dX11_bestRound_63 (by decide) ?_
                  refine j_iinc5 (k := (1 : Int32)) X dX11_bestRound_114 (by decide) (by decide) rfl ?_
                  refine j_goto (tgt := 33) X dX11_bestRound_117 (by decide) ?_
                  refine j_keep [true, true, true, true, true, true, false, false] rfl ?_
                  exact ih _ _ _ _ _ _ hf
              · replace hf := (if_neg n_55_3).symm.trans hf
                cases hf
  rw [f_X11_bestRound] at hf
  refine j_aload_n X dX11_bestRound_0 rfl rfl ?_
  refine j_get (C := RX11) (T := TX11) (N := 10) X iX11 0 (wX_0 ..) rfl 0 (by decide) k_310 rfl rfl dX11_bestRound_1 ?_
  refine j_get (C := RX5) (T := TX5) (N := 8) X iX5 1 (wX_1 ..) rfl 2 (by decide) k_239 rfl rfl dX11_bestRound_4 ?_
  obtain ⟨q1, g_q1, hf⟩ := ob_t hf
  obtain ⟨μ2, e_μ2, hf⟩ := bd_e hf
  refine j_callV X [23, 24, 25, 26, 27, 28, 7, 8, 9, 10, 11, 12, 13, 14, 66, 67, 68, 69, 70, 71, 72, 73] 0 (c_X4_howMany E (fun j => h (List.getD [23, 24, 25, 26, 27, 28, 7, 8, 9, 10, 11, 12, 13, 14, 66, 67, 68, 69, 70, 71, 72, 73] j 0)) (fun j => g (List.getD [0, 1] j 0)) g_q1) (cut_wX_wR_23_24_25_c ..) rfl rfl (ws' := (wX E h g μ2)) (by rw [e_μ2]; exact cut_wX_wR_23_24_25_w ..) (wR_0 ..) rfl k_649 k_650 k_651 k_78 k_652 (⟨rfl, rfl⟩) hdV_X4_howMany ⟨Nat.le_of_ble_eq_true rfl, Nat.le_of_ble_eq_true rfl⟩ rfl (Nat.le_of_ble_eq_true rfl) rfl dX11_bestRound_7 ?_
  refine j_istore_n3 X dX11_bestRound_10 rfl (by decide) rfl ?_
  refine j_iconst (v := (-1 : Int32)) X dX11_bestRound_11 (by decide) ?_
  refine j_istore4 X dX11_bestRound_12 (by decide) rfl ?_
  refine j_aload_n X dX11_bestRound_14 rfl rfl ?_
  refine j_get (C := RX11) (T := TX11) (N := 10) X iX11 0 (wX_0 ..) rfl 3 (by decide) k_313 rfl rfl dX11_bestRound_15 ?_
  refine j_iconst (v := (0 : Int32)) X dX11_bestRound_18 (by decide) ?_
  by_cases n_19_0 : (0 : Int32) = (0 : Int32)
  · replace hf := (if_pos n_19_0).symm.trans hf
    refine j_aald3 X 65 (wX_65 ..) (b := h 41) (by rw [n_19_0]; unfold vp_in; decide) (by rw [n_19_0]; rfl) dX11_bestRound_19 ?_
    refine j_aload_n X dX11_bestRound_20 rfl rfl ?_
    refine j_get (C := RX11) (T := TX11) (N := 10) X iX11 0 (wX_0 ..) rfl 0 (by decide) k_310 rfl rfl dX11_bestRound_21 ?_
    refine j_get (C := RX5) (T := TX5) (N := 8) X iX5 1 (wX_1 ..) rfl 2 (by decide) k_239 rfl rfl dX11_bestRound_24 ?_
    obtain ⟨q3, g_q3, hf⟩ := ob_t hf
    obtain ⟨μ4, e_μ4, hf⟩ := bd_e hf
    refine j_callV X [41, 42, 43, 44, 45, 46, 23, 24, 25, 26, 27, 28] 0 (c_X4_copyFrom E (fun j => h (List.getD [41, 42, 43, 44, 45, 46, 23, 24, 25, 26, 27, 28, 7, 11, 66, 7, 11, 66] j 0)) (fun j => g (List.getD [] j 0)) g_q3) (cut_wX_wRC_41_42_43_c ..) rfl rfl (ws' := (wX E h g μ4)) (by rw [e_μ4]; exact cut_wX_wRC_41_42_43_w ..) (wRC_0 ..) rfl k_638 k_639 k_640 k_78 k_641 (⟨rfl, rfl⟩) hdV_X4_copyFrom ⟨Nat.le_of_ble_eq_true rfl, Nat.le_of_ble_eq_true rfl⟩ rfl (Nat.le_of_ble_eq_true rfl) rfl dX11_bestRound_27 ?_
    refine j_iconst (v := (0 : Int32)) X dX11_bestRound_30 (by decide) ?_
    refine j_istore5 X dX11_bestRound_31 (by decide) rfl ?_
    refine j_keep [true, true, true, true, true, true, false, false] rfl ?_
    exact lab33 _ _ _ _ _ _ _ hf
  · replace hf := (if_neg n_19_0).symm.trans hf
    by_cases n_19_1 : (0 : Int32) = (1 : Int32)
    · replace hf := (if_pos n_19_1).symm.trans hf
      refine j_aald3 X 65 (wX_65 ..) (b := h 47) (by rw [n_19_1]; unfold vp_in; decide) (by rw [n_19_1]; rfl) dX11_bestRound_19 ?_
      refine j_aload_n X dX11_bestRound_20 rfl rfl ?_
      refine j_get (C := RX11) (T := TX11) (N := 10) X iX11 0 (wX_0 ..) rfl 0 (by decide) k_310 rfl rfl dX11_bestRound_21 ?_
      refine j_get (C := RX5) (T := TX5) (N := 8) X iX5 1 (wX_1 ..) rfl 2 (by decide) k_239 rfl rfl dX11_bestRound_24 ?_
      obtain ⟨q111, g_q111, hf⟩ := ob_t hf
      obtain ⟨μ112, e_μ112, hf⟩ := bd_e hf
      refine j_callV X [47, 48, 49, 50, 51, 52, 23, 24, 25, 26, 27, 28] 0 (c_X4_copyFrom E (fun j => h (List.getD [47, 48, 49, 50, 51, 52, 23, 24, 25, 26, 27, 28, 7, 11, 66, 7, 11, 66] j 0)) (fun j => g (List.getD [] j 0)) g_q111) (cut_wX_wRC_47_48_49_x50_51_52_23_24_25_26_27_28_7_11_66_7_11_66_c ..) rfl rfl (ws' := (wX E h g μ112)) (by rw [e_μ112]; exact cut_wX_wRC_47_48_49_x50_51_52_23_24_25_26_27_28_7_11_66_7_11_66_w ..) (wRC_0 ..) rfl k_638 k_639 k_640 k_78 k_641 (⟨rfl, rfl⟩) hdV_X4_copyFrom ⟨Nat.le_of_ble_eq_true rfl, Nat.le_of_ble_eq_true rfl⟩ rfl (Nat.le_of_ble_eq_true rfl) rfl dX11_bestRound_27 ?_
      refine j_iconst (v := (0 : Int32)) X dX11_bestRound_30 (by decide) ?_
      refine j_istore5 X dX11_bestRound_31 (by decide) rfl ?_
      refine j_keep [true, true, true, true, true, true, false, false] rfl ?_
      exact lab33 _ _ _ _ _ _ _ hf
    · replace hf := (if_neg n_19_1).symm.trans hf
      by_cases n_19_2 : (0 : Int32) = (2 : Int32)
      · replace hf := (if_pos n_19_2).symm.trans hf
        refine j_aald3 X 65 (wX_65 ..) (b := h 53) (by rw [n_19_2]; unfold vp_in; decide) (by rw [n_19_2]; rfl) dX11_bestRound_19 ?_
        refine j_aload_n X dX11_bestRound_20 rfl rfl ?_
        refine j_get (C := RX11) (T := TX11) (N := 10) X iX11 0 (wX_0 ..) rfl 0 (by decide) k_310 rfl rfl dX11_bestRound_21 ?_
        refine j_get (C := RX5) (T := TX5) (N := 8) X iX5 1 (wX_1 ..) rfl 2 (by decide) k_239 rfl rfl dX11_bestRound_24 ?_
        obtain ⟨q113, g_q113, hf⟩ := ob_t hf
        obtain ⟨μ114, e_μ114, hf⟩ := bd_e hf
        refine j_callV X [53, 54, 55, 56, 57, 58, 23, 24, 25, 26, 27, 28] 0 (c_X4_copyFrom E (fun j => h (List.getD [53, 54, 55, 56, 57, 58, 23, 24, 25, 26, 27, 28, 7, 11, 66, 7, 11, 66] j 0)) (fun j => g (List.getD [] j 0)) g_q113) (cut_wX_wRC_53_54_55_x56_57_58_23_24_25_26_27_28_7_11_66_7_11_66_c ..) rfl rfl (ws' := (wX E h g μ114)) (by rw [e_μ114]; exact cut_wX_wRC_53_54_55_x56_57_58_23_24_25_26_27_28_7_11_66_7_11_66_w ..) (wRC_0 ..) rfl k_638 k_639 k_640 k_78 k_641 (⟨rfl, rfl⟩) hdV_X4_copyFrom ⟨Nat.le_of_ble_eq_true rfl, Nat.le_of_ble_eq_true rfl⟩ rfl (Nat.le_of_ble_eq_true rfl) rfl dX11_bestRound_27 ?_
        refine j_iconst (v := (0 : Int32)) X dX11_bestRound_30 (by decide) ?_
        refine j_istore5 X dX11_bestRound_31 (by decide) rfl ?_
        refine j_keep [true, true, true, true, true, true, false, false] rfl ?_
        exact lab33 _ _ _ _ _ _ _ hf
      · replace hf := (if_neg n_19_2).symm.trans hf
        by_cases n_19_3 : (0 : Int32) = (3 : Int32)
        · replace hf := (if_pos n_19_3).symm.trans hf
          refine j_aald3 X 65 (wX_65 ..) (b := h 59) (by rw [n_19_3]; unfold vp_in; decide) (by rw [n_19_3]; rfl) dX11_bestRound_19 ?_
          refine j_aload_n X dX11_bestRound_20 rfl rfl ?_
          refine j_get (C := RX11) (T := TX11) (N := 10) X iX11 0 (wX_0 ..) rfl 0 (by decide) k_310 rfl rfl dX11_bestRound_21 ?_
          refine j_get (C := RX5) (T := TX5) (N := 8) X iX5 1 (wX_1 ..) rfl 2 (by decide) k_239 rfl rfl dX11_bestRound_24 ?_
          obtain ⟨q115, g_q115, hf⟩ := ob_t hf
          obtain ⟨μ116, e_μ116, hf⟩ := bd_e hf
          refine j_callV X [59, 60, 61, 62, 63, 64, 23, 24, 25, 26, 27, 28] 0 (c_X4_copyFrom E (fun j => h (List.getD [59, 60, 61, 62, 63, 64, 23, 24, 25, 26, 27, 28, 7, 11, 66, 7, 11, 66] j 0)) (fun j => g (List.getD [] j 0)) g_q115) (cut_wX_wRC_59_60_61_x62_63_64_23_24_25_26_27_28_7_11_66_7_11_66_c ..) rfl rfl (ws' := (wX E h g μ116)) (by rw [e_μ116]; exact cut_wX_wRC_59_60_61_x62_63_64_23_24_25_26_27_28_7_11_66_7_11_66_w ..) (wRC_0 ..) rfl k_638 k_639 k_640 k_78 k_641 (⟨rfl, rfl⟩) hdV_X4_copyFrom ⟨Nat.le_of_ble_eq_true rfl, Nat.le_of_ble_eq_true rfl⟩ rfl (Nat.le_of_ble_eq_true rfl) rfl dX11_bestRound_27 ?_
          refine j_iconst (v := (0 : Int32)) X dX11_bestRound_30 (by decide) ?_
          refine j_istore5 X dX11_bestRound_31 (by decide) rfl ?_
          refine j_keep [true, true, true, true, true, true, false, false] rfl ?_
          exact lab33 _ _ _ _ _ _ _ hf
        · replace hf := (if_neg n_19_3).symm.trans hf
          cases hf
def f_X11_round (μ : Mem) (x1 : Int32) (x2 : Int32) (x3 : Int32) : Option (Mem × Int32) := (f_X11_isStander x1).bind fun q1 => ((if q1 = 0 then (f_X11_fails μ (1 : Int32)).bind fun q2 => (some (q2.1, q2.2)) else (f_X11_within x2 (1 : Int32) (3 : Int32)).bind fun q3 => ((if q3 = 0 then (f_X11_fails μ (1 : Int32)).bind fun q4 => (some (q4.1, q4.2)) else (f_X11_within x3 (0 : Int32) (1 : Int32)).bind fun q5 => ((if q5 = 0 then (f_X11_fails μ (1 : Int32)).bind fun q15 => (some (q15.1, q15.2)) else (f_X4_stands (sub [23, 24, 25, 26, 27, 28, 7, 8, 9, 10, 11, 12, 13, 14, 66, 67, 68, 69, 70, 71, 72, 73] μ) x1).bind fun q6 => (bd (put [23, 24, 25, 26, 27, 28, 7, 8, 9, 10, 11, 12, 13, 14, 66, 67, 68, 69, 70, 71, 72, 73] μ q6.1) fun μ7 => ((if q6.2 = 0 then (f_X11_fails μ7 (3 : Int32)).bind fun q14 => (some (q14.1, q14.2)) else (f_X11_bestRound μ7 x1 x2).bind fun q8 => ((if 0 ≤ q8.2 then (if x3 = 0 then (if inb (3 : Int32) 4 = true then (if ¬ (tabT (3 : Int32).toNatClampNeg) = 0 then some (q8.1, (q8.2 / (tabT (3 : Int32).toNatClampNeg))) else none) else none) else (if inb (3 : Int32) 4 = true then (if ¬ (tabT (3 : Int32).toNatClampNeg) = 0 then some (q8.1, (q8.2 - q8.2 / (tabT (3 : Int32).toNatClampNeg) * (tabT (3 : Int32).toNatClampNeg))) else none) else none)) else (f_X11_fails q8.1 (2 : Int32)).bind fun q13 => (some (q13.1, q13.2)))))))))))))
set_option maxHeartbeats 4000000 in
set_option maxRecDepth 20000 in
theorem c_X11_round (tn tt : Nat) (E : Ev) (h : Nat → Nat) (g : Nat → Option Nat) {μ : Mem} {x1 : Int32} {x2 : Int32} {x3 : Int32} {r : (Mem × Int32)} (hf : f_X11_round μ x1 x2 x3 = some r) : CtF tn tt E yX11_round cX11_round 5 (some .int) (rmOf 7 166) (wX E h g μ) (wX E h g r.1) [.ref (h 0), .int x1, .int x2, .int x3] (some (.int r.2)) := by
  refine ctF_start RX11 1 (by decide) rfl (Nat.le_of_ble_eq_true rfl) ?_
  intro p l e s m args below meth c A Q X F hr hlk hQ
  rw [f_X11_round] at hf
  refine j_iload_n X dX11_round_0 rfl rfl ?_
  obtain ⟨q1, g_q1, hf⟩ := ob_t hf
  refine j_callS X [] (c_X11_isStander E g_q1) rfl rfl rfl (ws' := (wX E h g μ)) rfl k_345 k_346 k_68 k_347 (⟨rfl, rfl⟩) hdS_X11_isStander ⟨Nat.le_of_ble_eq_true rfl, Nat.le_of_ble_eq_true rfl⟩ rfl (Nat.le_of_ble_eq_true rfl) rfl dX11_round_1 ?_
  refine j_if_eq (tgt := 25) X dX11_round_4 (by decide) (fun c_4 => ?_) (fun c_4 => ?_)
  · replace hf := (if_pos c_4).symm.trans hf
    refine j_aload_n X dX11_round_25 rfl rfl ?_
    refine j_iconst (v := (1 : Int32)) X dX11_round_26 (by decide) ?_
    obtain ⟨q2, g_q2, hf⟩ := ob_t hf
    refine j_callV X [0, 1, 2, 3, 4, 5, 6, 7, 8, 9, 10, 11, 12, 13, 14, 15, 16, 17, 18, 19, 20, 21, 22, 23, 24, 25, 26, 27, 28, 29, 30, 31, 32, 33, 34, 35, 36, 37, 38, 39, 40, 41, 42, 43, 44, 45, 46, 47, 48, 49, 50, 51, 52, 53, 54, 55, 56, 57, 58, 59, 60, 61, 62, 63, 64, 65, 66, 67, 68, 69, 70, 71, 72, 73, 74, 75, 76, 77, 78, 79, 80, 81, 82, 83, 84] 0 (c_X11_fails E h g g_q2) (cut_wX_wX_c ..) rfl rfl (ws' := (wX E h g q2.1)) (cut_wX_wX_w ..) (wX_0 ..) rfl k_351 k_353 k_0 k_68 k_354 (⟨rfl, rfl⟩) hdV_X11_fails ⟨Nat.le_of_ble_eq_true rfl, Nat.le_of_ble_eq_true rfl⟩ rfl (Nat.le_of_ble_eq_true rfl) rfl dX11_round_27 ?_
    obtain rfl := Option.some.inj hf
    exact j_iret X hr hlk rfl dX11_round_30 hQ
  · replace hf := (if_neg c_4).symm.trans hf
    refine j_iload_n X dX11_round_7 rfl rfl ?_
    refine j_iconst (v := (1 : Int32)) X dX11_round_8 (by decide) ?_
    refine j_iconst (v := (3 : Int32)) X dX11_round_9 (by decide) ?_
    obtain ⟨q3, g_q3, hf⟩ := ob_t hf
    refine j_callS X [] (c_X11_within E g_q3) rfl rfl rfl (ws' := (wX E h g μ)) rfl k_348 k_349 k_68 k_350 (⟨rfl, rfl⟩) hdS_X11_within ⟨Nat.le_of_ble_eq_true rfl, Nat.le_of_ble_eq_true rfl⟩ rfl (Nat.le_of_ble_eq_true rfl) rfl dX11_round_10 ?_
    refine j_if_eq (tgt := 25) X dX11_round_13 (by decide) (fun c_13 => ?_) (fun c_13 => ?_)
    · replace hf := (if_pos c_13).symm.trans hf
      refine j_aload_n X dX11_round_25 rfl rfl ?_
      refine j_iconst (v := (1 : Int32)) X dX11_round_26 (by decide) ?_
      obtain ⟨q4, g_q4, hf⟩ := ob_t hf
      refine j_callV X [0, 1, 2, 3, 4, 5, 6, 7, 8, 9, 10, 11, 12, 13, 14, 15, 16, 17, 18, 19, 20, 21, 22, 23, 24, 25, 26, 27, 28, 29, 30, 31, 32, 33, 34, 35, 36, 37, 38, 39, 40, 41, 42, 43, 44, 45, 46, 47, 48, 49, 50, 51, 52, 53, 54, 55, 56, 57, 58, 59, 60, 61, 62, 63, 64, 65, 66, 67, 68, 69, 70, 71, 72, 73, 74, 75, 76, 77, 78, 79, 80, 81, 82, 83, 84] 0 (c_X11_fails E h g g_q4) (cut_wX_wX_c ..) rfl rfl (ws' := (wX E h g q4.1)) (cut_wX_wX_w ..) (wX_0 ..) rfl k_351 k_353 k_0 k_68 k_354 (⟨rfl, rfl⟩) hdV_X11_fails ⟨Nat.le_of_ble_eq_true rfl, Nat.le_of_ble_eq_true rfl⟩ rfl (Nat.le_of_ble_eq_true rfl) rfl dX11_round_27 ?_
      obtain rfl := Option.some.inj hf
      exact j_iret X hr hlk rfl dX11_round_30 hQ
    · replace hf := (if_neg c_13).symm.trans hf
      refine j_iload_n X dX11_round_16 rfl rfl ?_
      refine j_iconst (v := (0 : Int32)) X dX11_round_17 (by decide) ?_
      refine j_iconst (v := (1 : Int32)) X dX11_round_18 (by decide) ?_
      obtain ⟨q5, g_q5, hf⟩ := ob_t hf
      refine j_callS X [] (c_X11_within E g_q5) rfl rfl rfl (ws' := (wX E h g μ)) rfl k_348 k_349 k_68 k_350 (⟨rfl, rfl⟩) hdS_X11_within ⟨Nat.le_of_ble_eq_true rfl, Nat.le_of_ble_eq_true rfl⟩ rfl (Nat.le_of_ble_eq_true rfl) rfl dX11_round_19 ?_
      refine j_if_ne (tgt := 31) X dX11_round_22 (by decide) (fun c_22 => ?_) (fun c_22 => ?_)
      · replace hf := (if_neg c_22).symm.trans hf
        refine j_aload_n X dX11_round_31 rfl rfl ?_
        refine j_get (C := RX11) (T := TX11) (N := 10) X iX11 0 (wX_0 ..) rfl 0 (by decide) k_310 rfl rfl dX11_round_32 ?_
        refine j_get (C := RX5) (T := TX5) (N := 8) X iX5 1 (wX_1 ..) rfl 2 (by decide) k_239 rfl rfl dX11_round_35 ?_
        refine j_iload_n X dX11_round_38 rfl rfl ?_
        obtain ⟨q6, g_q6, hf⟩ := ob_t hf
        obtain ⟨μ7, e_μ7, hf⟩ := bd_e hf
        refine j_callV X [23, 24, 25, 26, 27, 28, 7, 8, 9, 10, 11, 12, 13, 14, 66, 67, 68, 69, 70, 71, 72, 73] 0 (c_X4_stands E (fun j => h (List.getD [23, 24, 25, 26, 27, 28, 7, 8, 9, 10, 11, 12, 13, 14, 66, 67, 68, 69, 70, 71, 72, 73] j 0)) (fun j => g (List.getD [0, 1] j 0)) g_q6) (cut_wX_wR_23_24_25_c ..) rfl rfl (ws' := (wX E h g μ7)) (by rw [e_μ7]; exact cut_wX_wR_23_24_25_w ..) (wR_0 ..) rfl k_454 k_455 k_456 k_78 k_457 (⟨rfl, rfl⟩) hdV_X4_stands ⟨Nat.le_of_ble_eq_true rfl, Nat.le_of_ble_eq_true rfl⟩ rfl (Nat.le_of_ble_eq_true rfl) rfl dX11_round_39 ?_
        refine j_if_ne (tgt := 51) X dX11_round_42 (by decide) (fun c_42 => ?_) (fun c_42 => ?_)
        · replace hf := (if_neg c_42).symm.trans hf
          refine j_aload_n X dX11_round_51 rfl rfl ?_
          refine j_iload_n X dX11_round_52 rfl rfl ?_
          refine j_iload_n X dX11_round_53 rfl rfl ?_
          obtain ⟨q8, g_q8, hf⟩ := ob_t hf
          refine j_callVF X F [0, 1, 2, 3, 4, 5, 6, 7, 8, 9, 10, 11, 12, 13, 14, 15, 16, 17, 18, 19, 20, 21, 22, 23, 24, 25, 26, 27, 28, 29, 30, 31, 32, 33, 34, 35, 36, 37, 38, 39, 40, 41, 42, 43, 44, 45, 46, 47, 48, 49, 50, 51, 52, 53, 54, 55, 56, 57, 58, 59, 60, 61, 62, 63, 64, 65, 66, 67, 68, 69, 70, 71, 72, 73, 74, 75, 76, 77, 78, 79, 80, 81, 82, 83, 84] 0 (c_X11_bestRound tn tt E h g g_q8) (cut_wX_wX_c ..) rfl rfl (ws' := (wX E h g q8.1)) (cut_wX_wX_w ..) (wX_0 ..) rfl k_679 k_681 k_18 k_68 k_682 (⟨rfl, rfl⟩) hdV_X11_bestRound ⟨Nat.le_of_ble_eq_true rfl, Nat.le_of_ble_eq_true rfl⟩ rfl (Nat.le_of_ble_eq_true rfl) rfl dX11_round_54 ?_
          refine j_istore4 X dX11_round_57 (by decide) rfl ?_
          refine j_iload X dX11_round_59 rfl ?_
          refine j_if_ge (tgt := 70) X dX11_round_61 (by decide) (fun c_61 => ?_) (fun c_61 => ?_)
          · replace hf := (if_pos c_61).symm.trans hf
            refine j_iload_n X dX11_round_70 rfl rfl ?_
            refine j_if_ne (tgt := 85) X dX11_round_71 (by decide) (fun c_71 => ?_) (fun c_71 => ?_)
            · replace hf := (if_neg c_71).symm.trans hf
              refine j_iload X dX11_round_85 rfl ?_
              refine j_getsT X F k_689 dX11_round_87 ?_
              refine j_iconst (v := (3 : Int32)) X dX11_round_90 (by decide) ?_
              obtain ⟨c9, hf⟩ := oi_in hf
              refine j_tldT X F c9 dX11_round_91 ?_
              obtain ⟨c10, hf⟩ := oi_t hf
              refine j_irem X dX11_round_92 c10 ?_
              obtain rfl := Option.some.inj hf
              exact j_iret X hr hlk rfl dX11_round_93 hQ
            · replace hf := (if_pos c_71).symm.trans hf
              refine j_iload X dX11_round_74 rfl ?_
              refine j_getsT X F k_689 dX11_round_76 ?_
              refine j_iconst (v := (3 : Int32)) X dX11_round_79 (by decide) ?_
              obtain ⟨c11, hf⟩ := oi_in hf
              refine j_tldT X F c11 dX11_round_80 ?_
              obtain ⟨c12, hf⟩ := oi_t hf
              refine j_idiv X dX11_round_81 c12 ?_
              refine j_goto (tgt := 93) X dX11_round_82 (by decide) ?_
              obtain rfl := Option.some.inj hf
              exact j_iret X hr hlk rfl dX11_round_93 hQ
          · replace hf := (if_neg c_61).symm.trans hf
            refine j_aload_n X dX11_round_64 rfl rfl ?_
            refine j_iconst (v := (2 : Int32)) X dX11_round_65 (by decide) ?_
            obtain ⟨q13, g_q13, hf⟩ := ob_t hf
            refine j_callV X [0, 1, 2, 3, 4, 5, 6, 7, 8, 9, 10, 11, 12, 13, 14, 15, 16, 17, 18, 19, 20, 21, 22, 23, 24, 25, 26, 27, 28, 29, 30, 31, 32, 33, 34, 35, 36, 37, 38, 39, 40, 41, 42, 43, 44, 45, 46, 47, 48, 49, 50, 51, 52, 53, 54, 55, 56, 57, 58, 59, 60, 61, 62, 63, 64, 65, 66, 67, 68, 69, 70, 71, 72, 73, 74, 75, 76, 77, 78, 79, 80, 81, 82, 83, 84] 0 (c_X11_fails E h g g_q13) (cut_wX_wX_c ..) rfl rfl (ws' := (wX E h g q13.1)) (cut_wX_wX_w ..) (wX_0 ..) rfl k_351 k_353 k_0 k_68 k_354 (⟨rfl, rfl⟩) hdV_X11_fails ⟨Nat.le_of_ble_eq_true rfl, Nat.le_of_ble_eq_true rfl⟩ rfl (Nat.le_of_ble_eq_true rfl) rfl dX11_round_66 ?_
            obtain rfl := Option.some.inj hf
            exact j_iret X hr hlk rfl dX11_round_69 hQ
        · replace hf := (if_pos c_42).symm.trans hf
          refine j_aload_n X dX11_round_45 rfl rfl ?_
          refine j_iconst (v := (3 : Int32)) X dX11_round_46 (by decide) ?_
          obtain ⟨q14, g_q14, hf⟩ := ob_t hf
          refine j_callV X [0, 1, 2, 3, 4, 5, 6, 7, 8, 9, 10, 11, 12, 13, 14, 15, 16, 17, 18, 19, 20, 21, 22, 23, 24, 25, 26, 27, 28, 29, 30, 31, 32, 33, 34, 35, 36, 37, 38, 39, 40, 41, 42, 43, 44, 45, 46, 47, 48, 49, 50, 51, 52, 53, 54, 55, 56, 57, 58, 59, 60, 61, 62, 63, 64, 65, 66, 67, 68, 69, 70, 71, 72, 73, 74, 75, 76, 77, 78, 79, 80, 81, 82, 83, 84] 0 (c_X11_fails E h g g_q14) (cut_wX_wX_c ..) rfl rfl (ws' := (wX E h g q14.1)) (cut_wX_wX_w ..) (wX_0 ..) rfl k_351 k_353 k_0 k_68 k_354 (⟨rfl, rfl⟩) hdV_X11_fails ⟨Nat.le_of_ble_eq_true rfl, Nat.le_of_ble_eq_true rfl⟩ rfl (Nat.le_of_ble_eq_true rfl) rfl dX11_round_47 ?_
          obtain rfl := Option.some.inj hf
          exact j_iret X hr hlk rfl dX11_round_50 hQ
      · replace hf := (if_pos c_22).symm.trans hf
        refine j_aload_n X dX11_round_25 rfl rfl ?_
        refine j_iconst (v := (1 : Int32)) X dX11_round_26 (by decide) ?_
        obtain ⟨q15, g_q15, hf⟩ := ob_t hf
        refine j_callV X [0, 1, 2, 3, 4, 5, 6, 7, 8, 9, 10, 11, 12, 13, 14, 15, 16, 17, 18, 19, 20, 21, 22, 23, 24, 25, 26, 27, 28, 29, 30, 31, 32, 33, 34, 35, 36, 37, 38, 39, 40, 41, 42, 43, 44, 45, 46, 47, 48, 49, 50, 51, 52, 53, 54, 55, 56, 57, 58, 59, 60, 61, 62, 63, 64, 65, 66, 67, 68, 69, 70, 71, 72, 73, 74, 75, 76, 77, 78, 79, 80, 81, 82, 83, 84] 0 (c_X11_fails E h g g_q15) (cut_wX_wX_c ..) rfl rfl (ws' := (wX E h g q15.1)) (cut_wX_wX_w ..) (wX_0 ..) rfl k_351 k_353 k_0 k_68 k_354 (⟨rfl, rfl⟩) hdV_X11_fails ⟨Nat.le_of_ble_eq_true rfl, Nat.le_of_ble_eq_true rfl⟩ rfl (Nat.le_of_ble_eq_true rfl) rfl dX11_round_27 ?_
        obtain rfl := Option.some.inj hf
        exact j_iret X hr hlk rfl dX11_round_30 hQ
