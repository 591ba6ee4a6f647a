def f_X12_draw (μ : Mem) : Option (Mem × Int32) := (if inb (4 : Int32) 387 = true then (if inb (4 : Int32) 387 = true then bd (upA μ 1 (upd (μ 1) (4 : Int32).toNatClampNeg (((μ 1 (4 : Int32).toNatClampNeg) * (1103515245 : Int32)) + (12345 : Int32)))) fun μ3 => ((if inb (4 : Int32) 387 = true then some (μ3, (iushr (μ3 1 (4 : Int32).toNatClampNeg) (8 : Int32))) else none)) else none) else none)
set_option maxHeartbeats 4000000 in
set_option maxRecDepth 20000 in
theorem c_X12_draw (E : Ev) (h : Nat → Nat) (g : Nat → Option Nat) {μ : Mem} {r : (Mem × Int32)} (hf : f_X12_draw μ = some r) : Ct E yX12_draw cX12_draw 1 (some .int) (rmOf 0 0) (wM E h g μ) (wM E h g r.1) [.ref (h 0)] (some (.int r.2)) := by
  refine ct_start RX12 0 (by decide) rfl (Nat.le_of_ble_eq_true rfl) ?_
  intro p l e s m args below meth c A Q X hr hlk hQ
  rw [f_X12_draw] at hf
  refine j_aload_n X dX12_draw_0 rfl rfl ?_
  refine j_get (C := RX12) (T := TX12) (N := 21) X iX12 0 (wM_0 ..) rfl 0 (by decide) k_916 rfl rfl dX12_draw_1 ?_
  refine j_iconst (v := (4 : Int32)) X dX12_draw_4 (by decide) ?_
  refine j_aload_n X dX12_draw_5 rfl rfl ?_
  refine j_get (C := RX12) (T := TX12) (N := 21) X iX12 0 (wM_0 ..) rfl 0 (by decide) k_916 rfl rfl dX12_draw_6 ?_
  refine j_iconst (v := (4 : Int32)) X dX12_draw_9 (by decide) ?_
  obtain ⟨c1, hf⟩ := oi_in hf
  refine j_iald X 1 (wM_1 ..) c1 dX12_draw_10 ?_
  refine j_ldc X k_1177 dX12_draw_11 ?_
  refine j_imul X dX12_draw_13 ?_
  refine j_sipush (v := (12345 : Int32)) X dX12_draw_14 (by decide) ?_
  refine j_iadd X dX12_draw_17 ?_
  obtain ⟨c2, hf⟩ := oi_in hf
  obtain ⟨μ3, e_μ3, hf⟩ := bd_e hf
  refine j_iast X 1 (wM_1 ..) c2 dX12_draw_18 (ws' := (wM E h g μ3)) (by rw [e_μ3]; exact wM_s1 ..) ?_
  refine j_aload_n X dX12_draw_19 rfl rfl ?_
  refine j_get (C := RX12) (T := TX12) (N := 21) X iX12 0 (wM_0 ..) rfl 0 (by decide) k_916 rfl rfl dX12_draw_20 ?_
  refine j_iconst (v := (4 : Int32)) X dX12_draw_23 (by decide) ?_
  obtain ⟨c4, hf⟩ := oi_in hf
  refine j_iald X 1 (wM_1 ..) c4 dX12_draw_24 ?_
  refine j_bipush (v := (8 : Int32)) X dX12_draw_25 (by decide) ?_
  refine j_iushr X dX12_draw_27 ?_
  obtain rfl := Option.some.inj hf
  exact j_iret X hr hlk rfl dX12_draw_28 hQ
def f_X12_draws_L20 : Nat → Mem → Int32 → Int32 → Int32 → Option (Mem × Int32)
  | 0, _, _, _, _ => none
  | n + 1, μ, x1, x2, x3 => (if x1 ≤ x3 then some (μ, x2) else (f_X12_draw μ).bind fun q2 => ((f_X12_flyAt q2.1 (q2.2 - q2.2 / (9 : Int32) * (9 : Int32))).bind fun q3 => (bd (x2 + q3.2) fun y4 => ((f_X12_draws_L20 n) q3.1 x1 y4 (x3 + (1 : Int32))))))
def f_X12_draws (μ : Mem) (x1 : Int32) : Option (Mem × Int32) := (f_X12_in x1 (1 : Int32) (60 : Int32)).bind fun q1 => ((if q1 = 0 then (f_X12_error μ (1 : Int32)).bind fun q5 => (some (q5.1, q5.2)) else f_X12_draws_L20 fuel0 μ x1 (0 : Int32) (0 : Int32)))
set_option maxHeartbeats 4000000 in
set_option maxRecDepth 20000 in
theorem c_X12_draws (E : Ev) (h : Nat → Nat) (g : Nat → Option Nat) {μ : Mem} {x1 : Int32} {r : (Mem × Int32)} (hf : f_X12_draws μ x1 = some r) : Ct E yX12_draws cX12_draws 4 (some .int) (rmOf 6 138) (wM E h g μ) (wM E h g r.1) [.ref (h 0), .int x1] (some (.int r.2)) := by
  refine ct_start RX12 2 (by decide) rfl (Nat.le_of_ble_eq_true rfl) ?_
  intro p l e s m args below meth c A Q X hr hlk hQ
  have lab20 : ∀ (n : Nat) (μ : Mem) (x1 : Int32) (x2 : Int32) (x3 : Int32), f_X12_draws_L20 n μ x1 x2 x3 = some r → J p l e (rmOf 6 138) s m args below meth c E A 4 Q (wM E h g μ) [some (.ref (h 0)), some (.int x1), some (.int x2), some (.int x3)] 20 [] := by
    intro n
    induction n with
    | zero => intro μ x1 x2 x3 hf; cases (show none = some r from hf)
    | succ n ih =>
      intro μ x1 x2 x3 hf
      rw [f_X12_draws_L20] at hf
      refine j_iload_n X dX12_draws_20 rfl rfl ?_
      refine j_iload_n X dX12_draws_21 rfl rfl ?_
      refine j_icmp_ge (tgt := 45) X dX12_draws_22 (by decide) (fun c_22 => ?_) (fun c_22 => ?_)
      · replace hf := (if_pos c_22).symm.trans hf
        refine j_iload_n X dX12_draws_45 rfl rfl ?_
        obtain rfl := Option.some.inj hf
        exact j_iret X hr hlk rfl dX12_draws_46 hQ
      · replace hf := (if_neg c_22).symm.trans hf
        refine j_iload_n X dX12_draws_25 rfl rfl ?_
        refine j_aload_n X dX12_draws_26 rfl rfl ?_
        refine j_aload_n X dX12_draws_27 rfl rfl ?_
        obtain ⟨q2, g_q2, hf⟩ := ob_t hf
        refine j_callV X [0, 1, 2, 3, 4, 5, 6, 7, 8, 9, 10, 11, 12, 13] 0 (c_X12_draw E h g g_q2) (cut_wM_wM_c ..) rfl rfl (ws' := (wM E h g q2.1)) (cut_wM_wM_w ..) (wM_0 ..) rfl k_1173 k_1175 k_53 k_80 k_1176 (⟨rfl, rfl⟩) hdV_X12_draw ⟨Nat.le_of_ble_eq_true rfl, Nat.le_of_ble_eq_true rfl⟩ rfl (Nat.le_of_ble_eq_true rfl) rfl dX12_draws_28 ?_
        refine j_bipush (v := (9 : Int32)) X dX12_draws_31 (by decide) ?_
        refine j_irem X dX12_draws_33 (by decide) ?_
        obtain ⟨q3, g_q3, hf⟩ := ob_t hf
        refine j_callV X [0, 1, 2, 3, 4, 5, 6, 7, 8, 9, 10, 11, 12, 13] 0 (c_X12_flyAt E h g g_q3) (cut_wM_wM_c ..) rfl rfl (ws' := (wM E h g q3.1)) (cut_wM_wM_w ..) (wM_0 ..) rfl k_1157 k_1159 k_51 k_80 k_1160 (⟨rfl, rfl⟩) hdV_X12_flyAt ⟨Nat.le_of_ble_eq_true rfl, Nat.le_of_ble_eq_true rfl⟩ rfl (Nat.le_of_ble_eq_true rfl) rfl dX12_draws_34 ?_
        refine j_iadd X dX12_draws_37 ?_
        obtain ⟨y4, e_y4, hf⟩ := bd_e hf
        refine j_top e_y4 ?_
        refine j_istore_n2 X dX12_draws_38 rfl (by decide) rfl ?_
        refine j_iinc3 (k := (1 : Int32)) X dX12_draws_39 (by decide) (by decide) rfl ?_
        refine j_goto (tgt := 20) X dX12_draws_42 (by decide) ?_
        refine j_keep [true, true, true, true] rfl ?_
        exact ih _ _ _ _ hf
  rw [f_X12_draws] at hf
  refine j_iload_n X dX12_draws_0 rfl rfl ?_
  refine j_iconst (v := (1 : Int32)) X dX12_draws_1 (by decide) ?_
  refine j_bipush (v := (60 : Int32)) X dX12_draws_2 (by decide) ?_
  obtain ⟨q1, g_q1, hf⟩ := ob_t hf
  refine j_callS X [] (c_X12_in E g_q1) rfl rfl rfl (ws' := (wM E h g μ)) rfl k_984 k_985 k_80 k_986 (⟨rfl, rfl⟩) hdS_X12_in ⟨Nat.le_of_ble_eq_true rfl, Nat.le_of_ble_eq_true rfl⟩ rfl (Nat.le_of_ble_eq_true rfl) rfl dX12_draws_4 ?_
  refine j_if_ne (tgt := 16) X dX12_draws_7 (by decide) (fun c_7 => ?_) (fun c_7 => ?_)
  · replace hf := (if_neg c_7).symm.trans hf
    refine j_iconst (v := (0 : Int32)) X dX12_draws_16 (by decide) ?_
    refine j_istore_n2 X dX12_draws_17 rfl (by decide) rfl ?_
    refine j_iconst (v := (0 : Int32)) X dX12_draws_18 (by decide) ?_
    refine j_istore_n3 X dX12_draws_19 rfl (by decide) rfl ?_
    refine j_keep [true, true, true, true] rfl ?_
    exact lab20 _ _ _ _ _ hf
  · replace hf := (if_pos c_7).symm.trans hf
    refine j_aload_n X dX12_draws_10 rfl rfl ?_
    refine j_iconst (v := (1 : Int32)) X dX12_draws_11 (by decide) ?_
    obtain ⟨q5, g_q5, hf⟩ := ob_t hf
    refine j_callV X [0, 1, 2, 3, 4, 5, 6, 7, 8, 9, 10, 11, 12, 13] 0 (c_X12_error E h g g_q5) (cut_wM_wM_c ..) rfl rfl (ws' := (wM E h g q5.1)) (cut_wM_wM_w ..) (wM_0 ..) rfl k_987 k_989 k_24 k_80 k_990 (⟨rfl, rfl⟩) hdV_X12_error ⟨Nat.le_of_ble_eq_true rfl, Nat.le_of_ble_eq_true rfl⟩ rfl (Nat.le_of_ble_eq_true rfl) rfl dX12_draws_12 ?_
    obtain rfl := Option.some.inj hf
    exact j_iret X hr hlk rfl dX12_draws_15 hQ
def f_X12_seed (μ : Mem) (x1 : Int32) : Option (Mem × Int32) := (f_X12_change1 μ (4 : Int32) x1).bind fun q1 => (some (q1.1, q1.2))
set_option maxHeartbeats 4000000 in
set_option maxRecDepth 20000 in
theorem c_X12_seed (E : Ev) (h : Nat → Nat) (g : Nat → Option Nat) {μ : Mem} {x1 : Int32} {r : (Mem × Int32)} (hf : f_X12_seed μ x1 = some r) : Ct E yX12_seed cX12_seed 2 (some .int) (rmOf 1 23) (wM E h g μ) (wM E h g r.1) [.ref (h 0), .int x1] (some (.int r.2)) := by
  refine ct_start RX12 0 (by decide) rfl (Nat.le_of_ble_eq_true rfl) ?_
  intro p l e s m args below meth c A Q X hr hlk hQ
  rw [f_X12_seed] at hf
  refine j_aload_n X dX12_seed_0 rfl rfl ?_
  refine j_iconst (v := (4 : Int32)) X dX12_seed_1 (by decide) ?_
  refine j_iload_n X dX12_seed_2 rfl rfl ?_
  obtain ⟨q1, g_q1, hf⟩ := ob_t hf
  refine j_callV X [0, 1, 2, 3, 4, 5, 6, 7, 8, 9, 10, 11, 12, 13] 0 (c_X12_change1 E h g g_q1) (cut_wM_wM_c ..) rfl rfl (ws' := (wM E h g q1.1)) (cut_wM_wM_w ..) (wM_0 ..) rfl k_1129 k_1131 k_47 k_80 k_1132 (⟨rfl, rfl⟩) hdV_X12_change1 ⟨Nat.le_of_ble_eq_true rfl, Nat.le_of_ble_eq_true rfl⟩ rfl (Nat.le_of_ble_eq_true rfl) rfl dX12_seed_3 ?_
  obtain rfl := Option.some.inj hf
  exact j_iret X hr hlk rfl dX12_seed_6 hQ
def f_X12_then (μ : Mem) (x1 : Int32) (x2 : Int32) (x3 : Int32) : Option (Mem × Int32) := (f_X12_in x1 (0 : Int32) (200 : Int32)).bind fun q1 => ((if q1 = 0 then (f_X12_error μ (1 : Int32)).bind fun q2 => (some (q2.1, q2.2)) else (f_X12_isOne x2).bind fun q3 => ((if q3 = 0 then (f_X12_error μ (1 : Int32)).bind fun q4 => (some (q4.1, q4.2)) else (f_X12_in x3 (2 : Int32) (4 : Int32)).bind fun q5 => ((if q5 = 0 then (f_X12_error μ (1 : Int32)).bind fun q10 => (some (q10.1, q10.2)) else (f_X12_layDown μ (0 : Int32)).bind fun q6 => ((f_X12_go q6 x1).bind fun q7 => ((f_X12_its q7.1 x2 x3).bind fun q8 => ((f_X12_layBack q8.1 (0 : Int32)).bind fun q9 => (some (q9, q8.2)))))))))))
set_option maxHeartbeats 4000000 in
set_option maxRecDepth 20000 in
theorem c_X12_then (E : Ev) (h : Nat → Nat) (g : Nat → Option Nat) {μ : Mem} {x1 : Int32} {x2 : Int32} {x3 : Int32} {r : (Mem × Int32)} (hf : f_X12_then μ x1 x2 x3 = some r) : Ct E yX12_then cX12_then 6 (some .int) (rmOf 7 160) (wM E h g μ) (wM E h g r.1) [.ref (h 0), .int x1, .int x2, .int x3] (some (.int r.2)) := by
  refine ct_start RX12 2 (by decide) rfl (Nat.le_of_ble_eq_true rfl) ?_
  intro p l e s m args below meth c A Q X hr hlk hQ
  rw [f_X12_then] at hf
  refine j_iload_n X dX12_then_0 rfl rfl ?_
  refine j_iconst (v := (0 : Int32)) X dX12_then_1 (by decide) ?_
  refine j_sipush (v := (200 : Int32)) X dX12_then_2 (by decide) ?_
  obtain ⟨q1, g_q1, hf⟩ := ob_t hf
  refine j_callS X [] (c_X12_in E g_q1) rfl rfl rfl (ws' := (wM E h g μ)) rfl k_984 k_985 k_80 k_986 (⟨rfl, rfl⟩) hdS_X12_in ⟨Nat.le_of_ble_eq_true rfl, Nat.le_of_ble_eq_true rfl⟩ rfl (Nat.le_of_ble_eq_true rfl) rfl dX12_then_5 ?_
  refine j_if_eq (tgt := 27) X dX12_then_8 (by decide) (fun c_8 => ?_) (fun c_8 => ?_)
  · replace hf := (if_pos c_8).symm.trans hf
    refine j_aload_n X dX12_then_27 rfl rfl ?_
    refine j_iconst (v := (1 : Int32)) X dX12_then_28 (by decide) ?_
    obtain ⟨q2, g_q2, hf⟩ := ob_t hf
    refine j_callV X [0, 1, 2, 3, 4, 5, 6, 7, 8, 9, 10, 11, 12, 13] 0 (c_X12_error E h g g_q2) (cut_wM_wM_c ..) rfl rfl (ws' := (wM E h g q2.1)) (cut_wM_wM_w ..) (wM_0 ..) rfl k_987 k_989 k_24 k_80 k_990 (⟨rfl, rfl⟩) hdV_X12_error ⟨Nat.le_of_ble_eq_true rfl, Nat.le_of_ble_eq_true rfl⟩ rfl (Nat.le_of_ble_eq_true rfl) rfl dX12_then_29 ?_
    obtain rfl := Option.some.inj hf
    exact j_iret X hr hlk rfl dX12_then_32 hQ
  · replace hf := (if_neg c_8).symm.trans hf
    refine j_iload_n X dX12_then_11 rfl rfl ?_
    obtain ⟨q3, g_q3, hf⟩ := ob_t hf
    refine j_callS X [] (c_X12_isOne E g_q3) rfl rfl rfl (ws' := (wM E h g μ)) rfl k_1049 k_1050 k_80 k_1051 (⟨rfl, rfl⟩) hdS_X12_isOne ⟨Nat.le_of_ble_eq_true rfl, Nat.le_of_ble_eq_true rfl⟩ rfl (Nat.le_of_ble_eq_true rfl) rfl dX12_then_12 ?_
    refine j_if_eq (tgt := 27) X dX12_then_15 (by decide) (fun c_15 => ?_) (fun c_15 => ?_)
    · replace hf := (if_pos c_15).symm.trans hf
      refine j_aload_n X dX12_then_27 rfl rfl ?_
      refine j_iconst (v := (1 : Int32)) X dX12_then_28 (by decide) ?_
      obtain ⟨q4, g_q4, hf⟩ := ob_t hf
      refine j_callV X [0, 1, 2, 3, 4, 5, 6, 7, 8, 9, 10, 11, 12, 13] 0 (c_X12_error E h g g_q4) (cut_wM_wM_c ..) rfl rfl (ws' := (wM E h g q4.1)) (cut_wM_wM_w ..) (wM_0 ..) rfl k_987 k_989 k_24 k_80 k_990 (⟨rfl, rfl⟩) hdV_X12_error ⟨Nat.le_of_ble_eq_true rfl, Nat.le_of_ble_eq_true rfl⟩ rfl (Nat.le_of_ble_eq_true rfl) rfl dX12_then_29 ?_
      obtain rfl := Option.some.inj hf
      exact j_iret X hr hlk rfl dX12_then_32 hQ
    · replace hf := (if_neg c_15).symm.trans hf
      refine j_iload_n X dX12_then_18 rfl rfl ?_
      refine j_iconst (v := (2 : Int32)) X dX12_then_19 (by decide) ?_
      refine j_iconst (v := (4 : Int32)) X dX12_then_20 (by decide) ?_
      obtain ⟨q5, g_q5, hf⟩ := ob_t hf
      refine j_callS X [] (c_X12_in E g_q5) rfl rfl rfl (ws' := (wM E h g μ)) rfl k_984 k_985 k_80 k_986 (⟨rfl, rfl⟩) hdS_X12_in ⟨Nat.le_of_ble_eq_true rfl, Nat.le_of_ble_eq_true rfl⟩ rfl (Nat.le_of_ble_eq_true rfl) rfl dX12_then_21 ?_
      refine j_if_ne (tgt := 33) X dX12_then_24 (by decide) (fun c_24 => ?_) (fun c_24 => ?_)
      · replace hf := (if_neg c_24).symm.trans hf
        refine j_aload_n X dX12_then_33 rfl rfl ?_
        refine j_iconst (v := (0 : Int32)) X dX12_then_34 (by decide) ?_
        obtain ⟨q6, g_q6, hf⟩ := ob_t hf
        refine j_callV X [0, 1, 2, 3, 4, 5, 6, 7, 8, 9, 10, 11, 12, 13] 0 (c_X12_layDown E h g g_q6) (cut_wM_wM_c ..) rfl rfl (ws' := (wM E h g q6)) (cut_wM_wM_w ..) (wM_0 ..) rfl k_1186 k_1188 k_54 k_80 k_1189 (⟨rfl, rfl⟩) hdV_X12_layDown ⟨Nat.le_of_ble_eq_true rfl, Nat.le_of_ble_eq_true rfl⟩ rfl (Nat.le_of_ble_eq_true rfl) rfl dX12_then_35 ?_
        refine j_aload_n X dX12_then_38 rfl rfl ?_
        refine j_iload_n X dX12_then_39 rfl rfl ?_
        obtain ⟨q7, g_q7, hf⟩ := ob_t hf
        refine j_callV X [0, 1, 2, 3, 4, 5, 6, 7, 8, 9, 10, 11, 12, 13] 0 (c_X12_go E h g g_q7) (cut_wM_wM_c ..) rfl rfl (ws' := (wM E h g q7.1)) (cut_wM_wM_w ..) (wM_0 ..) rfl k_1145 k_1147 k_49 k_80 k_1148 (⟨rfl, rfl⟩) hdV_X12_go ⟨Nat.le_of_ble_eq_true rfl, Nat.le_of_ble_eq_true rfl⟩ rfl (Nat.le_of_ble_eq_true rfl) rfl dX12_then_40 ?_
        refine j_istore4 X dX12_then_43 (by decide) rfl ?_
        refine j_aload_n X dX12_then_45 rfl rfl ?_
        refine j_iload_n X dX12_then_46 rfl rfl ?_
        refine j_iload_n X dX12_then_47 rfl rfl ?_
        obtain ⟨q8, g_q8, hf⟩ := ob_t hf
        refine j_callV X [0, 1, 2, 3, 4, 5, 6, 7, 8, 9, 10, 11, 12, 13] 0 (c_X12_its E h g g_q8) (cut_wM_wM_c ..) rfl rfl (ws' := (wM E h g q8.1)) (cut_wM_wM_w ..) (wM_0 ..) rfl k_1052 k_1054 k_36 k_80 k_1055 (⟨rfl, rfl⟩) hdV_X12_its ⟨Nat.le_of_ble_eq_true rfl, Nat.le_of_ble_eq_true rfl⟩ rfl (Nat.le_of_ble_eq_true rfl) rfl dX12_then_48 ?_
        refine j_istore5 X dX12_then_51 (by decide) rfl ?_
        refine j_aload_n X dX12_then_53 rfl rfl ?_
        refine j_iconst (v := (0 : Int32)) X dX12_then_54 (by decide) ?_
        obtain ⟨q9, g_q9, hf⟩ := ob_t hf
        refine j_callV X [0, 1, 2, 3, 4, 5, 6, 7, 8, 9, 10, 11, 12, 13] 0 (c_X12_layBack E h g g_q9) (cut_wM_wM_c ..) rfl rfl (ws' := (wM E h g q9)) (cut_wM_wM_w ..) (wM_0 ..) rfl k_1190 k_1192 k_55 k_80 k_1193 (⟨rfl, rfl⟩) hdV_X12_layBack ⟨Nat.le_of_ble_eq_true rfl, Nat.le_of_ble_eq_true rfl⟩ rfl (Nat.le_of_ble_eq_true rfl) rfl dX12_then_55 ?_
        refine j_iload X dX12_then_58 rfl ?_
        obtain rfl := Option.some.inj hf
        exact j_iret X hr hlk rfl dX12_then_60 hQ
      · replace hf := (if_pos c_24).symm.trans hf
        refine j_aload_n X dX12_then_27 rfl rfl ?_
        refine j_iconst (v := (1 : Int32)) X dX12_then_28 (by decide) ?_
        obtain ⟨q10, g_q10, hf⟩ := ob_t hf
        refine j_callV X [0, 1, 2, 3, 4, 5, 6, 7, 8, 9, 10, 11, 12, 13] 0 (c_X12_error E h g g_q10) (cut_wM_wM_c ..) rfl rfl (ws' := (wM E h g q10.1)) (cut_wM_wM_w ..) (wM_0 ..) rfl k_987 k_989 k_24 k_80 k_990 (⟨rfl, rfl⟩) hdV_X12_error ⟨Nat.le_of_ble_eq_true rfl, Nat.le_of_ble_eq_true rfl⟩ rfl (Nat.le_of_ble_eq_true rfl) rfl dX12_then_29 ?_
        obtain rfl := Option.some.inj hf
        exact j_iret X hr hlk rfl dX12_then_32 hQ
def f_X12_standing (μ : Mem) (x1 : Int32) : Option (Mem × Int32) := (f_X12_in x1 (0 : Int32) (200 : Int32)).bind fun q1 => ((if q1 = 0 then (f_X12_error μ (1 : Int32)).bind fun q6 => (some (q6.1, q6.2)) else (f_X12_layDown μ (0 : Int32)).bind fun q2 => ((f_X12_go q2 x1).bind fun q3 => ((f_X12_howMany q3.1).bind fun q4 => ((f_X12_layBack q4.1 (0 : Int32)).bind fun q5 => (some (q5, q4.2)))))))
set_option maxHeartbeats 4000000 in
set_option maxRecDepth 20000 in
theorem c_X12_standing (E : Ev) (h : Nat → Nat) (g : Nat → Option Nat) {μ : Mem} {x1 : Int32} {r : (Mem × Int32)} (hf : f_X12_standing μ x1 = some r) : Ct E yX12_standing cX12_standing 4 (some .int) (rmOf 7 160) (wM E h g μ) (wM E h g r.1) [.ref (h 0), .int x1] (some (.int r.2)) := by
  refine ct_start RX12 2 (by decide) rfl (Nat.le_of_ble_eq_true rfl) ?_
  intro p l e s m args below meth c A Q X hr hlk hQ
  rw [f_X12_standing] at hf
  refine j_iload_n X dX12_standing_0 rfl rfl ?_
  refine j_iconst (v := (0 : Int32)) X dX12_standing_1 (by decide) ?_
  refine j_sipush (v := (200 : Int32)) X dX12_standing_2 (by decide) ?_
  obtain ⟨q1, g_q1, hf⟩ := ob_t hf
  refine j_callS X [] (c_X12_in E g_q1) rfl rfl rfl (ws' := (wM E h g μ)) rfl k_984 k_985 k_80 k_986 (⟨rfl, rfl⟩) hdS_X12_in ⟨Nat.le_of_ble_eq_true rfl, Nat.le_of_ble_eq_true rfl⟩ rfl (Nat.le_of_ble_eq_true rfl) rfl dX12_standing_5 ?_
  refine j_if_ne (tgt := 17) X dX12_standing_8 (by decide) (fun c_8 => ?_) (fun c_8 => ?_)
  · replace hf := (if_neg c_8).symm.trans hf
    refine j_aload_n X dX12_standing_17 rfl rfl ?_
    refine j_iconst (v := (0 : Int32)) X dX12_standing_18 (by decide) ?_
    obtain ⟨q2, g_q2, hf⟩ := ob_t hf
    refine j_callV X [0, 1, 2, 3, 4, 5, 6, 7, 8, 9, 10, 11, 12, 13] 0 (c_X12_layDown E h g g_q2) (cut_wM_wM_c ..) rfl rfl (ws' := (wM E h g q2)) (cut_wM_wM_w ..) (wM_0 ..) rfl k_1186 k_1188 k_54 k_80 k_1189 (⟨rfl, rfl⟩) hdV_X12_layDown ⟨Nat.le_of_ble_eq_true rfl, Nat.le_of_ble_eq_true rfl⟩ rfl (Nat.le_of_ble_eq_true rfl) rfl dX12_standing_19 ?_
    refine j_aload_n X dX12_standing_22 rfl rfl ?_
    refine j_iload_n X dX12_standing_23 rfl rfl ?_
    obtain ⟨q3, g_q3, hf⟩ := ob_t hf
    refine j_callV X [0, 1, 2, 3, 4, 5, 6, 7, 8, 9, 10, 11, 12, 13] 0 (c_X12_go E h g g_q3) (cut_wM_wM_c ..) rfl rfl (ws' := (wM E h g q3.1)) (cut_wM_wM_w ..) (wM_0 ..) rfl k_1145 k_1147 k_49 k_80 k_1148 (⟨rfl, rfl⟩) hdV_X12_go ⟨Nat.le_of_ble_eq_true rfl, Nat.le_of_ble_eq_true rfl⟩ rfl (Nat.le_of_ble_eq_true rfl) rfl dX12_standing_24 ?_
    refine j_istore_n2 X dX12_standing_27 rfl (by decide) rfl ?_
    refine j_aload_n X dX12_standing_28 rfl rfl ?_
    obtain ⟨q4, g_q4, hf⟩ := ob_t hf
    refine j_callV X [0, 1, 2, 3, 4, 5, 6, 7, 8, 9, 10, 11, 12, 13] 0 (c_X12_howMany E h g g_q4) (cut_wM_wM_c ..) rfl rfl (ws' := (wM E h g q4.1)) (cut_wM_wM_w ..) (wM_0 ..) rfl k_1198 k_1200 k_56 k_80 k_1201 (⟨rfl, rfl⟩) hdV_X12_howMany ⟨Nat.le_of_ble_eq_true rfl, Nat.le_of_ble_eq_true rfl⟩ rfl (Nat.le_of_ble_eq_true rfl) rfl dX12_standing_29 ?_
    refine j_istore_n3 X dX12_standing_32 rfl (by decide) rfl ?_
    refine j_aload_n X dX12_standing_33 rfl rfl ?_
    refine j_iconst (v := (0 : Int32)) X dX12_standing_34 (by decide) ?_
    obtain ⟨q5, g_q5, hf⟩ := ob_t hf
    refine j_callV X [0, 1, 2, 3, 4, 5, 6, 7, 8, 9, 10, 11, 12, 13] 0 (c_X12_layBack E h g g_q5) (cut_wM_wM_c ..) rfl rfl (ws' := (wM E h g q5)) (cut_wM_wM_w ..) (wM_0 ..) rfl k_1190 k_1192 k_55 k_80 k_1193 (⟨rfl, rfl⟩) hdV_X12_layBack ⟨Nat.le_of_ble_eq_true rfl, Nat.le_of_ble_eq_true rfl⟩ rfl (Nat.le_of_ble_eq_true rfl) rfl dX12_standing_35 ?_
    refine j_iload_n X dX12_standing_38 rfl rfl ?_
    obtain rfl := Option.some.inj hf
    exact j_iret X hr hlk rfl dX12_standing_39 hQ
  · replace hf := (if_pos c_8).symm.trans hf
    refine j_aload_n X dX12_standing_11 rfl rfl ?_
    refine j_iconst (v := (1 : Int32)) X dX12_standing_12 (by decide) ?_
    obtain ⟨q6, g_q6, hf⟩ := ob_t hf
    refine j_callV X [0, 1, 2, 3, 4, 5, 6, 7, 8, 9, 10, 11, 12, 13] 0 (c_X12_error E h g g_q6) (cut_wM_wM_c ..) rfl rfl (ws' := (wM E h g q6.1)) (cut_wM_wM_w ..) (wM_0 ..) rfl k_987 k_989 k_24 k_80 k_990 (⟨rfl, rfl⟩) hdV_X12_error ⟨Nat.le_of_ble_eq_true rfl, Nat.le_of_ble_eq_true rfl⟩ rfl (Nat.le_of_ble_eq_true rfl) rfl dX12_standing_13 ?_
    obtain rfl := Option.some.inj hf
    exact j_iret X hr hlk rfl dX12_standing_16 hQ
def f_X12_lastAll_L44 (K30 : Mem → Int32 → Option Mem) : Nat → Mem → Int32 → Int32 → Int32 → Option Mem
  | 0, _, _, _, _ => none
  | n + 1, μ, x1, x2, x3 => (if (9 : Int32) ≤ x3 then K30 μ (x1 + (1 : Int32)) else (if x2 ≤ 0 then K30 μ (x1 + (1 : Int32)) else (f_X12_stands μ x3).bind fun q4 => ((if q4.2 = 0 then (if inb x3 9 = true then (if (q4.1 8 x3.toNatClampNeg) = (201 : Int32) then (if inb x3 9 = true then bd (upA q4.1 8 (upd (q4.1 8) x3.toNatClampNeg x1)) fun μ13 => ((f_X12_lastAll_L44 K30 n) μ13 x1 x2 (x3 + (1 : Int32))) else none) else (if inb x3 9 = true then (if inb x3 9 = true then bd (upA q4.1 8 (upd (q4.1 8) x3.toNatClampNeg (q4.1 8 x3.toNatClampNeg))) fun μ11 => ((f_X12_lastAll_L44 K30 n) μ11 x1 x2 (x3 + (1 : Int32))) else none) else none)) else none) else (if inb x3 9 = true then (if inb x3 9 = true then bd (upA q4.1 8 (upd (q4.1 8) x3.toNatClampNeg (q4.1 8 x3.toNatClampNeg))) fun μ7 => ((f_X12_lastAll_L44 K30 n) μ7 x1 x2 (x3 + (1 : Int32))) else none) else none)))))
def f_X12_lastAll_L30 : Nat → Mem → Int32 → Option Mem
  | 0, _, _ => none
  | n + 1, μ, x1 => (if (200 : Int32) < x1 then (f_X12_layBack μ (0 : Int32)).bind fun q2 => (some q2) else (f_X12_minute μ).bind fun q3 => (f_X12_lastAll_L44 (f_X12_lastAll_L30 n) fuel0 q3.1 x1 q3.2 (0 : Int32)))
def f_X12_lastAll_L7 : Nat → Mem → Int32 → Option Mem
  | 0, _, _ => none
  | n + 1, μ, x1 => (if (9 : Int32) ≤ x1 then f_X12_lastAll_L30 fuel0 μ (1 : Int32) else (if inb x1 9 = true then bd (upA μ 8 (upd (μ 8) x1.toNatClampNeg (201 : Int32))) fun μ15 => ((f_X12_lastAll_L7 n) μ15 (x1 + (1 : Int32))) else none))
def f_X12_lastAll (μ : Mem) : Option Mem := (f_X12_layDown μ (0 : Int32)).bind fun q1 => (f_X12_lastAll_L7 fuel0 q1 (0 : Int32))
set_option maxHeartbeats 4000000 in
set_option maxRecDepth 20000 in
theorem c_X12_lastAll (E : Ev) (h : Nat → Nat) (g : Nat → Option Nat) {μ : Mem} {r : Mem} (hf : f_X12_lastAll μ = some r) : Ct E yX12_lastAll cX12_lastAll 4 none (rmOf 6 137) (wM E h g μ) (wM E h g r) [.ref (h 0)] none := by
  refine ct_start RX12 3 (by decide) rfl (Nat.le_of_ble_eq_true rfl) ?_
  intro p l e s m args below meth c A Q X hr hlk hQ
  have lab44 : ∀ (K30 : Mem → Int32 → Option Mem) (hK30 : ∀ (μ : Mem) (x1 : Int32), K30 μ x1 = some r → J p l e (rmOf 6 137) s m args below meth c E A 4 Q (wM E h g μ) [some (.ref (h 0)), some (.int x1), none, none] 30 []) (n : Nat) (μ : Mem) (x1 : Int32) (x2 : Int32) (x3 : Int32), f_X12_lastAll_L44 K30 n μ x1 x2 x3 = some r → J p l e (rmOf 6 137) s m args below meth c E A 4 Q (wM E h g μ) [some (.ref (h 0)), some (.int x1), some (.int x2), some (.int x3)] 44 [] := by
    intro K30 hK30 n
    induction n with
    | zero => intro μ x1 x2 x3 hf; cases (show none = some r from hf)
    | succ n ih =>
      intro μ x1 x2 x3 hf
      rw [f_X12_lastAll_L44] at hf
      refine j_iload_n X dX12_lastAll_44 rfl rfl ?_
      refine j_bipush (v := (9 : Int32)) X dX12_lastAll_45 (by decide) ?_
      refine j_icmp_ge (tgt := 96) X dX12_lastAll_47 (by decide) (fun c_47 => ?_) (fun c_47 => ?_)
      · replace hf := (if_pos c_47).symm.trans hf
        refine j_iinc1 (k := (1 : Int32)) X dX12_lastAll_96 (by decide) (by decide) rfl ?_
        refine j_goto (tgt := 30) X dX12_lastAll_99 (by decide) ?_
        refine j_keep [true, true, false, false] rfl ?_
        exact hK30 _ _ hf
      · replace hf := (if_neg c_47).symm.trans hf
        refine j_iload_n X dX12_lastAll_50 rfl rfl ?_
        refine j_if_le (tgt := 96) X dX12_lastAll_51 (by decide) (fun c_51 => ?_) (fun c_51 => ?_)
        · replace hf := (if_pos c_51).symm.trans hf
          refine j_iinc1 (k := (1 : Int32)) X dX12_lastAll_96 (by decide) (by decide) rfl ?_
          refine j_goto (tgt := 30) X dX12_lastAll_99 (by decide) ?_
          refine j_keep [true, true, false, false] rfl ?_
          exact hK30 _ _ hf
        · replace hf := (if_neg c_51).symm.trans hf
          refine j_aload_n X dX12_lastAll_54 rfl rfl ?_
          refine j_get (C := RX12) (T := TX12) (N := 21) X iX12 0 (wM_0 ..) rfl 12 (by decide) k_928 rfl rfl dX12_lastAll_55 ?_
          refine j_iload_n X dX12_lastAll_58 rfl rfl ?_
          refine j_aload_n X dX12_lastAll_59 rfl rfl ?_
          refine j_iload_n X dX12_lastAll_60 rfl rfl ?_
          obtain ⟨q4, g_q4, hf⟩ := ob_t hf
          refine j_callV X [0, 1, 2, 3, 4, 5, 6, 7, 8, 9, 10, 11, 12, 13] 0 (c_X12_stands E h g g_q4) (cut_wM_wM_c ..) rfl rfl (ws' := (wM E h g q4.1)) (cut_wM_wM_w ..) (wM_0 ..) rfl k_1093 k_1095 k_41 k_80 k_1096 (⟨rfl, rfl⟩) hdV_X12_stands ⟨Nat.le_of_ble_eq_true rfl, Nat.le_of_ble_eq_true rfl⟩ rfl (Nat.le_of_ble_eq_true rfl) rfl dX12_lastAll_61 ?_
          refine j_if_ne (tgt := 83) X dX12_lastAll_64 (by decide) (fun c_64 => ?_) (fun c_64 => ?_)
          · replace hf := (if_neg c_64).symm.trans hf
            refine j_aload_n X dX12_lastAll_83 rfl rfl ?_
            refine j_get (C := RX12) (T := TX12) (N := 21) X iX12 0 (wM_0 ..) rfl 12 (by decide) k_928 rfl rfl dX12_lastAll_84 ?_
            refine j_iload_n X dX12_lastAll_87 rfl rfl ?_
            obtain ⟨c5, hf⟩ := oi_in hf
            refine j_iald X 8 (wM_8 ..) c5 dX12_lastAll_88 ?_
            obtain ⟨c6, hf⟩ := oi_in hf
            obtain ⟨μ7, e_μ7, hf⟩ := bd_e hf
            refine j_iast X 8 (wM_8 ..) c6 dX12_lastAll_89 (ws' := (wM E h g μ7)) (by rw [e_μ7]; exact wM_s8 ..) ?_
            refine j_iinc3 (k := (1 : Int32)) X dX12_lastAll_90 (by decide) (by decide) rfl ?_
            refine j_goto (tgt := 44) X dX12_lastAll_93 (by decide) ?_
            refine j_keep [true, true, true, true] rfl ?_
            exact ih _ _ _ _ hf
          · replace hf := (if_pos c_64).symm.trans hf
            refine j_aload_n X dX12_lastAll_67 rfl rfl ?_
            refine j_get (C := RX12) (T := TX12) (N := 21) X iX12 0 (wM_0 ..) rfl 12 (by decide) k_928 rfl rfl dX12_lastAll_68 ?_
            refine j_iload_n X dX12_lastAll_71 rfl rfl ?_
            obtain ⟨c8, hf⟩ := oi_in hf
            refine j_iald X 8 (wM_8 ..) c8 dX12_lastAll_72 ?_
            refine j_sipush (v := (201 : Int32)) X dX12_lastAll_73 (by decide) ?_
            refine j_icmp_ne (tgt := 83) X dX12_lastAll_76 (by decide) (fun c_76 => ?_) (fun c_76 => ?_)
            · replace hf := (if_neg c_76).symm.trans hf
              refine j_aload_n X dX12_lastAll_83 rfl rfl ?_
              refine j_get (C := RX12) (T := TX12) (N := 21) X iX12 0 (wM_0 ..) rfl 12 (by decide) k_928 rfl rfl dX12_lastAll_84 ?_
              refine j_iload_n X dX12_lastAll_87 rfl rfl ?_
              obtain ⟨c9, hf⟩ := oi_in hf
              refine j_iald X 8 (wM_8 ..) c9 dX12_lastAll_88 ?_
              obtain ⟨c10, hf⟩ := oi_in hf
              obtain ⟨μ11, e_μ11, hf⟩ := bd_e hf
              refine j_iast X 8 (wM_8 ..) c10 dX12_lastAll_89 (ws' := (wM E h g μ11)) (by rw [e_μ11]; exact wM_s8 ..) ?_
              refine j_iinc3 (k := (1 : Int32)) X dX12_lastAll_90 (by decide) (by decide) rfl ?_
              refine j_goto (tgt := 44) X dX12_lastAll_93 (by decide) ?_
              refine j_keep [true, true, true, true] rfl ?_
              exact ih _ _ _ _ hf
            · replace hf := (if_pos c_76).symm.trans hf
              refine j_iload_n X dX12_lastAll_79 rfl rfl ?_
              refine j_goto (tgt := 89) X dX12_lastAll_80 (by decide) ?_
              obtain ⟨c12, hf⟩ := oi_in hf
              obtain ⟨μ13, e_μ13, hf⟩ := bd_e hf
              refine j_iast X 8 (wM_8 ..) c12 dX12_lastAll_89 (ws' := (wM E h g μ13)) (by rw [e_μ13]; exact wM_s8 ..) ?_
              refine j_iinc3 (k := (1 : Int32)) X dX12_lastAll_90 (by decide) (by decide) rfl ?_
              refine j_goto (tgt := 44) X dX12_lastAll_93 (by decide) ?_
              refine j_keep [true, true, true, true] rfl ?_
              exact ih _ _ _ _ hf
  have lab30 : ∀ (n : Nat) (μ : Mem) (x1 : Int32), f_X12_lastAll_L30 n μ x1 = some r → J p l e (rmOf 6 137) s m args below meth c E A 4 Q (wM E h g μ) [some (.ref (h 0)), some (.int x1), none, none] 30 [] := by
    intro n
    induction n with
    | zero => intro μ x1 hf; cases (show none = some r from hf)
    | succ n ih =>
      intro μ x1 hf
      rw [f_X12_lastAll_L30] at hf
      refine j_iload_n X dX12_lastAll_30 rfl rfl ?_
      refine j_sipush (v := (200 : Int32)) X dX12_lastAll_31 (by decide) ?_
      refine j_icmp_gt (tgt := 102) X dX12_lastAll_34 (by decide) (fun c_34 => ?_) (fun c_34 => ?_)
      · replace hf := (if_pos c_34).symm.trans hf
        refine j_aload_n X dX12_lastAll_102 rfl rfl ?_
        refine j_iconst (v := (0 : Int32)) X dX12_lastAll_103 (by decide) ?_
        obtain ⟨q2, g_q2, hf⟩ := ob_t hf
        refine j_callV X [0, 1, 2, 3, 4, 5, 6, 7, 8, 9, 10, 11, 12, 13] 0 (c_X12_layBack E h g g_q2) (cut_wM_wM_c ..) rfl rfl (ws' := (wM E h g q2)) (cut_wM_wM_w ..) (wM_0 ..) rfl k_1190 k_1192 k_55 k_80 k_1193 (⟨rfl, rfl⟩) hdV_X12_layBack ⟨Nat.le_of_ble_eq_true rfl, Nat.le_of_ble_eq_true rfl⟩ rfl (Nat.le_of_ble_eq_true rfl) rfl dX12_lastAll_104 ?_
        obtain rfl := Option.some.inj hf
        exact j_vret X hr hlk dX12_lastAll_107 hQ
      · replace hf := (if_neg c_34).symm.trans hf
        refine j_aload_n X dX12_lastAll_37 rfl rfl ?_
        obtain ⟨q3, g_q3, hf⟩ := ob_t hf
        refine j_callV X [0, 1, 2, 3, 4, 5, 6, 7, 8, 9, 10, 11, 12, 13] 0 (c_X12_minute E h g g_q3) (cut_wM_wM_c ..) rfl rfl (ws' := (wM E h g q3.1)) (cut_wM_wM_w ..) (wM_0 ..) rfl k_1149 k_1151 k_50 k_80 k_1152 (⟨rfl, rfl⟩) hdV_X12_minute ⟨Nat.le_of_ble_eq_true rfl, Nat.le_of_ble_eq_true rfl⟩ rfl (Nat.le_of_ble_eq_true rfl) rfl dX12_lastAll_38 ?_
        refine j_istore_n2 X dX12_lastAll_41 rfl (by decide) rfl ?_
        refine j_iconst (v := (0 : Int32)) X dX12_lastAll_42 (by decide) ?_
        refine j_istore_n3 X dX12_lastAll_43 rfl (by decide) rfl ?_
        refine j_keep [true, true, true, true] rfl ?_
        exact lab44 _ ih _ _ _ _ _ hf
  have lab7 : ∀ (n : Nat) (μ : Mem) (x1 : Int32), f_X12_lastAll_L7 n μ x1 = some r → J p l e (rmOf 6 137) s m args below meth c E A 4 Q (wM E h g μ) [some (.ref (h 0)), some (.int x1), none, none] 7 [] := by
    intro n
    induction n with
    | zero => intro μ x1 hf; cases (show none = some r from hf)
    | succ n ih =>
      intro μ x1 hf
      rw [f_X12_lastAll_L7] at hf
      refine j_iload_n X dX12_lastAll_7 rfl rfl ?_
      refine j_bipush (v := (9 : Int32)) X dX12_lastAll_8 (by decide) ?_
      refine j_icmp_ge (tgt := 28) X dX12_lastAll_10 (by decide) (fun c_10 => ?_) (fun c_10 => ?_)
      · replace hf := (if_pos c_10).symm.trans hf
        refine j_iconst (v := (1 : Int32)) X dX12_lastAll_28 (by decide) ?_
        refine j_istore_n1 X dX12_lastAll_29 rfl (by decide) rfl ?_
        refine j_keep [true, true, false, false] rfl ?_
        exact lab30 _ _ _ hf
      · replace hf := (if_neg c_10).symm.trans hf
        refine j_aload_n X dX12_lastAll_13 rfl rfl ?_
        refine j_get (C := RX12) (T := TX12) (N := 21) X iX12 0 (wM_0 ..) rfl 12 (by decide) k_928 rfl rfl dX12_lastAll_14 ?_
        refine j_iload_n X dX12_lastAll_17 rfl rfl ?_
        refine j_sipush (v := (201 : Int32)) X dX12_lastAll_18 (by decide) ?_
        obtain ⟨c14, hf⟩ := oi_in hf
        obtain ⟨μ15, e_μ15, hf⟩ := bd_e hf
        refine j_iast X 8 (wM_8 ..) c14 dX12_lastAll_21 (ws' := (wM E h g μ15)) (by rw [e_μ15]; exact wM_s8 ..) ?_
        refine j_iinc1 (k := (1 : Int32)) X dX12_lastAll_22 (by decide) (by decide) rfl ?_
        refine j_goto (tgt := 7) X dX12_lastAll_25 (by decide) ?_
        refine j_keep [true, true, false, false] rfl ?_
        exact ih _ _ hf
  rw [f_X12_lastAll] at hf
  refine j_aload_n X dX12_lastAll_0 rfl rfl ?_
  refine j_iconst (v := (0 : Int32)) X dX12_lastAll_1 (by decide) ?_
  obtain ⟨q1, g_q1, hf⟩ := ob_t hf
  refine j_callV X [0, 1, 2, 3, 4, 5, 6, 7, 8, 9, 10, 11, 12, 13] 0 (c_X12_layDown E h g g_q1) (cut_wM_wM_c ..) rfl rfl (ws' := (wM E h g q1)) (cut_wM_wM_w ..) (wM_0 ..) rfl k_1186 k_1188 k_54 k_80 k_1189 (⟨rfl, rfl⟩) hdV_X12_layDown ⟨Nat.le_of_ble_eq_true rfl, Nat.le_of_ble_eq_true rfl⟩ rfl (Nat.le_of_ble_eq_true rfl) rfl dX12_lastAll_2 ?_
  refine j_iconst (v := (0 : Int32)) X dX12_lastAll_5 (by decide) ?_
  refine j_istore_n1 X dX12_lastAll_6 rfl (by decide) rfl ?_
  refine j_keep [true, true, false, false] rfl ?_
  exact lab7 _ _ _ hf
def f_X12_lasts_L24 (μ : Mem) (x1 : Int32) (t0 : Int32) : Option (Mem × Int32) := (if t0 ≤ 0 then (f_X12_lastAll μ).bind fun q3 => ((if inb x1 9 = true then (if (q3 8 x1.toNatClampNeg) = (201 : Int32) then (f_X12_error q3 (2 : Int32)).bind fun q6 => (some (q6.1, q6.2)) else (if inb x1 9 = true then some (q3, (q3 8 x1.toNatClampNeg)) else none)) else none)) else (f_X12_error μ t0).bind fun q7 => (some (q7.1, q7.2)))
def f_X12_lasts (μ : Mem) (x1 : Int32) : Option (Mem × Int32) := (f_X12_isOne x1).bind fun q1 => ((if q1 = 0 then f_X12_lasts_L24 μ x1 (1 : Int32) else (f_X12_stands μ x1).bind fun q2 => ((if q2.2 = 0 then f_X12_lasts_L24 q2.1 x1 (3 : Int32) else f_X12_lasts_L24 q2.1 x1 (0 : Int32)))))
set_option maxHeartbeats 4000000 in
set_option maxRecDepth 20000 in
theorem c_X12_lasts (E : Ev) (h : Nat → Nat) (g : Nat → Option Nat) {μ : Mem} {x1 : Int32} {r : (Mem × Int32)} (hf : f_X12_lasts μ x1 = some r) : Ct E yX12_lasts cX12_lasts 3 (some .int) (rmOf 7 160) (wM E h g μ) (wM E h g r.1) [.ref (h 0), .int x1] (some (.int r.2)) := by
  refine ct_start RX12 1 (by decide) rfl (Nat.le_of_ble_eq_true rfl) ?_
  intro p l e s m args below meth c A Q X hr hlk hQ
  have lab24 : ∀ (μ : Mem) (x1 : Int32) (t0 : Int32), f_X12_lasts_L24 μ x1 t0 = some r → J p l e (rmOf 7 160) s m args below meth c E A 3 Q (wM E h g μ) [some (.ref (h 0)), some (.int x1), none] 24 [.int t0] := by
    intro  μ x1 t0 hf
    rw [f_X12_lasts_L24] at hf
    refine j_istore_n2 X dX12_lasts_24 rfl (by decide) rfl ?_
    refine j_iload_n X dX12_lasts_25 rfl rfl ?_
    refine j_if_le (tgt := 35) X dX12_lasts_26 (by decide) (fun c_26 => ?_) (fun c_26 => ?_)
    · replace hf := (if_pos c_26).symm.trans hf
      refine j_aload_n X dX12_lasts_35 rfl rfl ?_
      obtain ⟨q3, g_q3, hf⟩ := ob_t hf
      refine j_callV X [0, 1, 2, 3, 4, 5, 6, 7, 8, 9, 10, 11, 12, 13] 0 (c_X12_lastAll E h g g_q3) (cut_wM_wM_c ..) rfl rfl (ws' := (wM E h g q3)) (cut_wM_wM_w ..) (wM_0 ..) rfl k_1206 k_1208 k_57 k_80 k_1209 (⟨rfl, rfl⟩) hdV_X12_lastAll ⟨Nat.le_of_ble_eq_true rfl, Nat.le_of_ble_eq_true rfl⟩ rfl (Nat.le_of_ble_eq_true rfl) rfl dX12_lasts_36 ?_
      refine j_aload_n X dX12_lasts_39 rfl rfl ?_
      refine j_get (C := RX12) (T := TX12) (N := 21) X iX12 0 (wM_0 ..) rfl 12 (by decide) k_928 rfl rfl dX12_lasts_40 ?_
      refine j_iload_n X dX12_lasts_43 rfl rfl ?_
      obtain ⟨c4, hf⟩ := oi_in hf
      refine j_iald X 8 (wM_8 ..) c4 dX12_lasts_44 ?_
      refine j_sipush (v := (201 : Int32)) X dX12_lasts_45 (by decide) ?_
      refine j_icmp_ne (tgt := 59) X dX12_lasts_48 (by decide) (fun c_48 => ?_) (fun c_48 => ?_)
      · replace hf := (if_neg c_48).symm.trans hf
        refine j_aload_n X dX12_lasts_59 rfl rfl ?_
        refine j_get (C := RX12) (T := TX12) (N := 21) X iX12 0 (wM_0 ..) rfl 12 (by decide) k_928 rfl rfl dX12_lasts_60 ?_
        refine j_iload_n X dX12_lasts_63 rfl rfl ?_
        obtain ⟨c5, hf⟩ := oi_in hf
        refine j_iald X 8 (wM_8 ..) c5 dX12_lasts_64 ?_
        obtain rfl := Option.some.inj hf
        exact j_iret X hr hlk rfl dX12_lasts_65 hQ
      · replace hf := (if_pos c_48).symm.trans hf
        refine j_aload_n X dX12_lasts_51 rfl rfl ?_
        refine j_iconst (v := (2 : Int32)) X dX12_lasts_52 (by decide) ?_
        obtain ⟨q6, g_q6, hf⟩ := ob_t hf
        refine j_callV X [0, 1, 2, 3, 4, 5, 6, 7, 8, 9, 10, 11, 12, 13] 0 (c_X12_error E h g g_q6) (cut_wM_wM_c ..) rfl rfl (ws' := (wM E h g q6.1)) (cut_wM_wM_w ..) (wM_0 ..) rfl k_987 k_989 k_24 k_80 k_990 (⟨rfl, rfl⟩) hdV_X12_error ⟨Nat.le_of_ble_eq_true rfl, Nat.le_of_ble_eq_true rfl⟩ rfl (Nat.le_of_ble_eq_true rfl) rfl dX12_lasts_53 ?_
        refine j_goto (tgt := 65) X dX12_lasts_56 (by decide) ?_
        obtain rfl := Option.some.inj hf
        exact j_iret X hr hlk rfl dX12_lasts_65 hQ
    · replace hf := (if_neg c_26).symm.trans hf
      refine j_aload_n X dX12_lasts_29 rfl rfl ?_
      refine j_iload_n X dX12_lasts_30 rfl rfl ?_
      obtain ⟨q7, g_q7, hf⟩ := ob_t hf
      refine j_callV X [0, 1, 2, 3, 4, 5, 6, 7, 8, 9, 10, 11, 12, 13] 0 (c_X12_error E h g g_q7) (cut_wM_wM_c ..) rfl rfl (ws' := (wM E h g q7.1)) (cut_wM_wM_w ..) (wM_0 ..) rfl k_987 k_989 k_24 k_80 k_990 (⟨rfl, rfl⟩) hdV_X12_error ⟨Nat.le_of_ble_eq_true rfl, Nat.le_of_ble_eq_true rfl⟩ rfl (Nat.le_of_ble_eq_true rfl) rfl dX12_lasts_31 ?_
      obtain rfl := Option.some.inj hf
      exact j_iret X hr hlk rfl dX12_lasts_34 hQ
  rw [f_X12_lasts] at hf
  refine j_iload_n X dX12_lasts_0 rfl rfl ?_
  obtain ⟨q1, g_q1, hf⟩ := ob_t hf
  refine j_callS X [] (c_X12_isOne E g_q1) rfl rfl rfl (ws' := (wM E h g μ)) rfl k_1049 k_1050 k_80 k_1051 (⟨rfl, rfl⟩) hdS_X12_isOne ⟨Nat.le_of_ble_eq_true rfl, Nat.le_of_ble_eq_true rfl⟩ rfl (Nat.le_of_ble_eq_true rfl) rfl dX12_lasts_1 ?_
  refine j_if_ne (tgt := 11) X dX12_lasts_4 (by decide) (fun c_4 => ?_) (fun c_4 => ?_)
  · replace hf := (if_neg c_4).symm.trans hf
    refine j_aload_n X dX12_lasts_11 rfl rfl ?_
    refine j_iload_n X dX12_lasts_12 rfl rfl ?_
    obtain ⟨q2, g_q2, hf⟩ := ob_t hf
    refine j_callV X [0, 1, 2, 3, 4, 5, 6, 7, 8, 9, 10, 11, 12, 13] 0 (c_X12_stands E h g g_q2) (cut_wM_wM_c ..) rfl rfl (ws' := (wM E h g q2.1)) (cut_wM_wM_w ..) (wM_0 ..) rfl k_1093 k_1095 k_41 k_80 k_1096 (⟨rfl, rfl⟩) hdV_X12_stands ⟨Nat.le_of_ble_eq_true rfl, Nat.le_of_ble_eq_true rfl⟩ rfl (Nat.le_of_ble_eq_true rfl) rfl dX12_lasts_13 ?_
    refine j_if_eq (tgt := 23) X dX12_lasts_16 (by decide) (fun c_16 => ?_) (fun c_16 => ?_)
    · replace hf := (if_pos c_16).symm.trans hf
      refine j_iconst (v := (3 : Int32)) X dX12_lasts_23 (by decide) ?_
      refine j_keep [true, true, false] rfl ?_
      exact lab24 _ _ _ hf
    · replace hf := (if_neg c_16).symm.trans hf
      refine j_iconst (v := (0 : Int32)) X dX12_lasts_19 (by decide) ?_
      refine j_goto (tgt := 24) X dX12_lasts_20 (by decide) ?_
      refine j_keep [true, true, false] rfl ?_
      exact lab24 _ _ _ hf
  · replace hf := (if_pos c_4).symm.trans hf
    refine j_iconst (v := (1 : Int32)) X dX12_lasts_7 (by decide) ?_
    refine j_goto (tgt := 24) X dX12_lasts_8 (by decide) ?_
    refine j_keep [true, true, false] rfl ?_
    exact lab24 _ _ _ hf
def f_X12_lastOne_L8 : Nat → Mem → Int32 → Int32 → Option (Mem × Int32)
  | 0, _, _, _ => none
  | n + 1, μ, x1, x2 => (if (9 : Int32) ≤ x2 then (if x1 = (-1 : Int32) then (f_X12_error μ (2 : Int32)).bind fun q2 => (some (q2.1, q2.2)) else some (μ, x1)) else (f_X12_stands μ x2).bind fun q3 => ((if q3.2 = 0 then (f_X12_lastOne_L8 n) q3.1 x1 (x2 + (1 : Int32)) else (if x1 = (-1 : Int32) then (f_X12_lastOne_L8 n) q3.1 x2 (x2 + (1 : Int32)) else (if inb x2 9 = true then (if inb x1 9 = true then (if (q3.1 8 x2.toNatClampNeg) ≤ (q3.1 8 x1.toNatClampNeg) then (f_X12_lastOne_L8 n) q3.1 x1 (x2 + (1 : Int32)) else (f_X12_lastOne_L8 n) q3.1 x2 (x2 + (1 : Int32))) else none) else none)))))
def f_X12_lastOne (μ : Mem) : Option (Mem × Int32) := (f_X12_lastAll μ).bind fun q1 => (f_X12_lastOne_L8 fuel0 q1 (-1 : Int32) (0 : Int32))
set_option maxHeartbeats 4000000 in
set_option maxRecDepth 20000 in
theorem c_X12_lastOne (E : Ev) (h : Nat → Nat) (g : Nat → Option Nat) {μ : Mem} {r : (Mem × Int32)} (hf : f_X12_lastOne μ = some r) : Ct E yX12_lastOne cX12_lastOne 3 (some .int) (rmOf 7 160) (wM E h g μ) (wM E h g r.1) [.ref (h 0)] (some (.int r.2)) := by
  refine ct_start RX12 2 (by decide) rfl (Nat.le_of_ble_eq_true rfl) ?_
  intro p l e s m args below meth c A Q X hr hlk hQ
  have lab8 : ∀ (n : Nat) (μ : Mem) (x1 : Int32) (x2 : Int32), f_X12_lastOne_L8 n μ x1 x2 = some r → J p l e (rmOf 7 160) s m args below meth c E A 3 Q (wM E h g μ) [some (.ref (h 0)), some (.int x1), some (.int x2)] 8 [] := by
    intro n
    induction n with
    | zero => intro μ x1 x2 hf; cases (show none = some r from hf)
    | succ n ih =>
      intro μ x1 x2 hf
      rw [f_X12_lastOne_L8] at hf
      refine j_iload_n X dX12_lastOne_8 rfl rfl ?_
      refine j_bipush (v := (9 : Int32)) X dX12_lastOne_9 (by decide) ?_
      refine j_icmp_ge (tgt := 54) X dX12_lastOne_11 (by decide) (fun c_11 => ?_) (fun c_11 => ?_)
      · replace hf := (if_pos c_11).symm.trans hf
        refine j_iload_n X dX12_lastOne_54 rfl rfl ?_
        refine j_iconst (v := (-1 : Int32)) X dX12_lastOne_55 (by decide) ?_
        refine j_icmp_ne (tgt := 67) X dX12_lastOne_56 (by decide) (fun c_56 => ?_) (fun c_56 => ?_)
        · replace hf := (if_neg c_56).symm.trans hf
          refine j_iload_n X dX12_lastOne_67 rfl rfl ?_
          obtain rfl := Option.some.inj hf
          exact j_iret X hr hlk rfl dX12_lastOne_68 hQ
        · replace hf := (if_pos c_56).symm.trans hf
          refine j_aload_n X dX12_lastOne_59 rfl rfl ?_
          refine j_iconst (v := (2 : Int32)) X dX12_lastOne_60 (by decide) ?_
          obtain ⟨q2, g_q2, hf⟩ := ob_t hf
          refine j_callV X [0, 1, 2, 3, 4, 5, 6, 7, 8, 9, 10, 11, 12, 13] 0 (c_X12_error E h g g_q2) (cut_wM_wM_c ..) rfl rfl (ws' := (wM E h g q2.1)) (cut_wM_wM_w ..) (wM_0 ..) rfl k_987 k_989 k_24 k_80 k_990 (⟨rfl, rfl⟩) hdV_X12_error ⟨Nat.le_of_ble_eq_true rfl, Nat.le_of_ble_eq_true rfl⟩ rfl (Nat.le_of_ble_eq_true rfl) rfl dX12_lastOne_61 ?_
          refine j_goto (tgt := 68) X dX12_lastOne_64 (by decide) ?_
          obtain rfl := Option.some.inj hf
          exact j_iret X hr hlk rfl dX12_lastOne_68 hQ
      · replace hf := (if_neg c_11).symm.trans hf
        refine j_aload_n X dX12_lastOne_14 rfl rfl ?_
        refine j_iload_n X dX12_lastOne_15 rfl rfl ?_
        obtain ⟨q3, g_q3, hf⟩ := ob_t hf
        refine j_callV X [0, 1, 2, 3, 4, 5, 6, 7, 8, 9, 10, 11, 12, 13] 0 (c_X12_stands E h g g_q3) (cut_wM_wM_c ..) rfl rfl (ws' := (wM E h g q3.1)) (cut_wM_wM_w ..) (wM_0 ..) rfl k_1093 k_1095 k_41 k_80 k_1096 (⟨rfl, rfl⟩) hdV_X12_stands ⟨Nat.le_of_ble_eq_true rfl, Nat.le_of_ble_eq_true rfl⟩ rfl (Nat.le_of_ble_eq_true rfl) rfl dX12_lastOne_16 ?_
        refine j_if_eq (tgt := 46) X dX12_lastOne_19 (by decide) (fun c_19 => ?_) (fun c_19 => ?_)
        · replace hf := (if_pos c_19).symm.trans hf
          refine j_iload_n X dX12_lastOne_46 rfl rfl ?_
          refine j_istore_n1 X dX12_lastOne_47 rfl (by decide) rfl ?_
          refine j_iinc2 (k := (1 : Int32)) X dX12_lastOne_48 (by decide) (by decide) rfl ?_
          refine j_goto (tgt := 8) X dX12_lastOne_51 (by decide) ?_
          refine j_keep [true, true, true] rfl ?_
          exact ih _ _ _ hf
        · replace hf := (if_neg c_19).symm.trans hf
          refine j_iload_n X dX12_lastOne_22 rfl rfl ?_
          refine j_iconst (v := (-1 : Int32)) X dX12_lastOne_23 (by decide) ?_
          refine j_icmp_eq (tgt := 42) X dX12_lastOne_24 (by decide) (fun c_24 => ?_) (fun c_24 => ?_)
          · replace hf := (if_pos c_24).symm.trans hf
            refine j_iload_n X dX12_lastOne_42 rfl rfl ?_
            refine j_goto (tgt := 47) X dX12_lastOne_43 (by decide) ?_
            refine j_istore_n1 X dX12_lastOne_47 rfl (by decide) rfl ?_
            refine j_iinc2 (k := (1 : Int32)) X dX12_lastOne_48 (by decide) (by decide) rfl ?_
            refine j_goto (tgt := 8) X dX12_lastOne_51 (by decide) ?_
            refine j_keep [true, true, true] rfl ?_
            exact ih _ _ _ hf
          · replace hf := (if_neg c_24).symm.trans hf
            refine j_aload_n X dX12_lastOne_27 rfl rfl ?_
            refine j_get (C := RX12) (T := TX12) (N := 21) X iX12 0 (wM_0 ..) rfl 12 (by decide) k_928 rfl rfl dX12_lastOne_28 ?_
            refine j_iload_n X dX12_lastOne_31 rfl rfl ?_
            obtain ⟨c4, hf⟩ := oi_in hf
            refine j_iald X 8 (wM_8 ..) c4 dX12_lastOne_32 ?_
            refine j_aload_n X dX12_lastOne_33 rfl rfl ?_
            refine j_get (C := RX12) (T := TX12) (N := 21) X iX12 0 (wM_0 ..) rfl 12 (by decide) k_928 rfl rfl dX12_lastOne_34 ?_
            refine j_iload_n X dX12_lastOne_37 rfl rfl ?_
            obtain ⟨c5, hf⟩ := oi_in hf
            refine j_iald X 8 (wM_8 ..) c5 dX12_lastOne_38 ?_
            refine j_icmp_le (tgt := 46) X dX12_lastOne_39 (by decide) (fun c_39 => ?_) (fun c_39 => ?_)
            · replace hf := (if_pos c_39).symm.trans hf
              refine j_iload_n X dX12_lastOne_46 rfl rfl ?_
              refine j_istore_n1 X dX12_lastOne_47 rfl (by decide) rfl ?_
              refine j_iinc2 (k := (1 : Int32)) X dX12_lastOne_48 (by decide) (by decide) rfl ?_
              refine j_goto (tgt := 8) X dX12_lastOne_51 (by decide) ?_
              refine j_keep [true, true, true] rfl ?_
              exact ih _ _ _ hf
            · replace hf := (if_neg c_39).symm.trans hf
              refine j_iload_n X dX12_lastOne_42 rfl rfl ?_
              refine j_goto (tgt := 47) X dX12_lastOne_43 (by decide) ?_
              refine j_istore_n1 X dX12_lastOne_47 rfl (by decide) rfl ?_
              refine j_iinc2 (k := (1 : Int32)) X dX12_lastOne_48 (by decide) (by decide) rfl ?_
              refine j_goto (tgt := 8) X dX12_lastOne_51 (by decide) ?_
              refine j_keep [true, true, true] rfl ?_
              exact ih _ _ _ hf
  rw [f_X12_lastOne] at hf
  refine j_iconst (v := (-1 : Int32)) X dX12_lastOne_0 (by decide) ?_
  refine j_istore_n1 X dX12_lastOne_1 rfl (by decide) rfl ?_
  refine j_aload_n X dX12_lastOne_2 rfl rfl ?_
  obtain ⟨q1, g_q1, hf⟩ := ob_t hf
  refine j_callV X [0, 1, 2, 3, 4, 5, 6, 7, 8, 9, 10, 11, 12, 13] 0 (c_X12_lastAll E h g g_q1) (cut_wM_wM_c ..) rfl rfl (ws' := (wM E h g q1)) (cut_wM_wM_w ..) (wM_0 ..) rfl k_1206 k_1208 k_57 k_80 k_1209 (⟨rfl, rfl⟩) hdV_X12_lastAll ⟨Nat.le_of_ble_eq_true rfl, Nat.le_of_ble_eq_true rfl⟩ rfl (Nat.le_of_ble_eq_true rfl) rfl dX12_lastOne_3 ?_
  refine j_iconst (v := (0 : Int32)) X dX12_lastOne_6 (by decide) ?_
  refine j_istore_n2 X dX12_lastOne_7 rfl (by decide) rfl ?_
  refine j_keep [true, true, true] rfl ?_
  exact lab8 _ _ _ _ hf
def f_X12_round_L199 : Nat → Mem → Int32 → Int32 → Int32 → Int32 → Int32 → Option (Mem × Int32)
  | 0, _, _, _, _, _, _ => none
  | n + 1, μ, x3, x5, x6, x7, x8 => (if x8 ≤ 0 then (if x3 = 0 then some (μ, x5) else some (μ, x7)) else (if ¬ x8 = 0 then bd ((((10 : Int32) * x7) + ((x6 / x8) - (x6 / x8) / (9 : Int32) * (9 : Int32))) + (1 : Int32)) fun y10 => (bd (x8 / (9 : Int32)) fun y11 => ((f_X12_round_L199 n) μ x3 x5 x6 y10 y11)) else none))
def f_X12_round_L156 (K84 : Mem → Int32 → Int32 → Int32 → Int32 → Int32 → Int32 → Option (Mem × Int32)) (μ : Mem) (x1 : Int32) (x3 : Int32) (x4 : Int32) (x7 : Int32) (x8 : Int32) : Option (Mem × Int32) := bd (x8 - (1 : Int32)) fun y16 => ((f_X12_layBack μ (0 : Int32)).bind fun q17 => (K84 q17 x1 x3 x4 y16 x7 (x7 + (1 : Int32))))
def f_X12_round_L101 (K84 : Mem → Int32 → Int32 → Int32 → Int32 → Int32 → Int32 → Option (Mem × Int32)) : Nat → Mem → Int32 → Int32 → Int32 → Int32 → Int32 → Int32 → Int32 → Int32 → Option (Mem × Int32)
  | 0, _, _, _, _, _, _, _, _, _ => none
  | n + 1, μ, x1, x3, x4, x5, x6, x7, x8, x9 => (if x9 ≤ 0 then (f_X12_stands μ x1).bind fun q14 => ((if q14.2 = 0 then (if x5 = (-1 : Int32) then f_X12_round_L156 K84 q14.1 x1 x3 x4 x7 x8 else (if x5 ≤ (x8 - (1 : Int32)) then (f_X12_layBack q14.1 (0 : Int32)).bind fun q18 => (K84 q18 x1 x3 x4 x5 x6 (x7 + (1 : Int32))) else f_X12_round_L156 K84 q14.1 x1 x3 x4 x7 x8)) else (f_X12_layBack q14.1 (0 : Int32)).bind fun q15 => (K84 q15 x1 x3 x4 x5 x6 (x7 + (1 : Int32))))) else (if ¬ x9 = 0 then (f_X12_flyAt μ ((x7 / x9) - (x7 / x9) / (9 : Int32) * (9 : Int32))).bind fun q20 => (bd (x8 + q20.2) fun y21 => (bd (x9 / (9 : Int32)) fun y22 => ((f_X12_round_L101 K84 n) q20.1 x1 x3 x4 x5 x6 x7 y21 y22))) else none))
def f_X12_round_L84 : Nat → Mem → Int32 → Int32 → Int32 → Int32 → Int32 → Int32 → Option (Mem × Int32)
  | 0, _, _, _, _, _, _, _ => none
  | n + 1, μ, x1, x3, x4, x5, x6, x7 => (if x4 ≤ x7 then (if x5 = (-1 : Int32) then (f_X12_error μ (2 : Int32)).bind fun q12 => (some (q12.1, q12.2)) else bd (x4 / (9 : Int32)) fun y8 => (f_X12_round_L199 fuel0 μ x3 x5 x6 (0 : Int32) y8)) else bd (x4 / (9 : Int32)) fun y13 => (f_X12_round_L101 (f_X12_round_L84 n) fuel0 μ x1 x3 x4 x5 x6 x7 (0 : Int32) y13))
def f_X12_round_L68 (μ : Mem) (x1 : Int32) (x3 : Int32) (t0 : Int32) : Option (Mem × Int32) := (f_X12_layDown μ (0 : Int32)).bind fun q7 => (f_X12_round_L84 fuel0 q7 x1 x3 t0 (-1 : Int32) (0 : Int32) (0 : Int32))
def f_X12_round (μ : Mem) (x1 : Int32) (x2 : Int32) (x3 : Int32) : Option (Mem × Int32) := (f_X12_isOne x1).bind fun q1 => ((if q1 = 0 then (f_X12_error μ (1 : Int32)).bind fun q2 => (some (q2.1, q2.2)) else (f_X12_in x2 (1 : Int32) (3 : Int32)).bind fun q3 => ((if q3 = 0 then (f_X12_error μ (1 : Int32)).bind fun q4 => (some (q4.1, q4.2)) else (f_X12_in x3 (0 : Int32) (1 : Int32)).bind fun q5 => ((if q5 = 0 then (f_X12_error μ (1 : Int32)).bind fun q24 => (some (q24.1, q24.2)) else (f_X12_stands μ x1).bind fun q6 => ((if q6.2 = 0 then (f_X12_error q6.1 (3 : Int32)).bind fun q23 => (some (q23.1, q23.2)) else (if x2 = (1 : Int32) then f_X12_round_L68 q6.1 x1 x3 (9 : Int32) else (if x2 = (2 : Int32) then f_X12_round_L68 q6.1 x1 x3 (81 : Int32) else f_X12_round_L68 q6.1 x1 x3 (729 : Int32)))))))))))
set_option maxHeartbeats 4000000 in
set_option maxRecDepth 20000 in
theorem c_X12_round (E : Ev) (h : Nat → Nat) (g : Nat → Option Nat) {μ : Mem} {x1 : Int32} {x2 : Int32} {x3 : Int32} {r : (Mem × Int32)} (hf : f_X12_round μ x1 x2 x3 = some r) : Ct E yX12_round cX12_round 10 (some .int) (rmOf 6 138) (wM E h g μ) (wM E h g r.1) [.ref (h 0), .int x1, .int x2, .int x3] (some (.int r.2)) := by
  refine ct_start RX12 6 (by decide) rfl (Nat.le_of_ble_eq_true rfl) ?_
  intro p l e s m args below meth c A Q X hr hlk hQ
  have lab199 : ∀ (n : Nat) (μ : Mem) (x3 : Int32) (x5 : Int32) (x6 : Int32) (x7 : Int32) (x8 : Int32), f_X12_round_L199 n μ x3 x5 x6 x7 x8 = some r → J p l e (rmOf 6 138) s m args below meth c E A 10 Q (wM E h g μ) [none, none, none, some (.int x3), none, some (.int x5), some (.int x6), some (.int x7), some (.int x8), none] 199 [] := by
    intro n
    induction n with
    | zero => intro μ x3 x5 x6 x7 x8 hf; cases (show none = some r from hf)
    | succ n ih =>
      intro μ x3 x5 x6 x7 x8 hf
      rw [f_X12_round_L199] at hf
      refine j_iload X dX12_round_199 rfl ?_
      refine j_if_le (tgt := 232) X dX12_round_201 (by decide) (fun c_201 => ?_) (fun c_201 => ?_)
      · replace hf := (if_pos c_201).symm.trans hf
        refine j_iload_n X dX12_round_232 rfl rfl ?_
        refine j_if_ne (tgt := 241) X dX12_round_233 (by decide) (fun c_233 => ?_) (fun c_233 => ?_)
        · replace hf := (if_neg c_233).symm.trans hf
          refine j_iload X dX12_round_241 rfl ?_
          obtain rfl := Option.some.inj hf
          exact j_iret X hr hlk rfl dX12_round_243 hQ
        · replace hf := (if_pos c_233).symm.trans hf
          refine j_iload X dX12_round_236 rfl ?_
          refine j_goto (tgt := 243) X dX12_round_238 (by decide) ?_
          obtain rfl := Option.some.inj hf
          exact j_iret X hr hlk rfl dX12_round_243 hQ
      · replace hf := (if_neg c_201).symm.trans hf
        refine j_bipush (v := (10 : Int32)) X dX12_round_204 (by decide) ?_
        refine j_iload X dX12_round_206 rfl ?_
        refine j_imul X dX12_round_208 ?_
        refine j_iload X dX12_round_209 rfl ?_
        refine j_iload X dX12_round_211 rfl ?_
        obtain ⟨c9, hf⟩ := oi_t hf
        refine j_idiv X dX12_round_213 c9 ?_
        refine j_bipush (v := (9 : Int32)) X dX12_round_214 (by decide) ?_
        refine j_irem X dX12_round_216 (by decide) ?_
        refine j_iadd X dX12_round_217 ?_
        refine j_iconst (v := (1 : Int32)) X dX12_round_218 (by decide) ?_
        refine j_iadd X dX12_round_219 ?_
        obtain ⟨y10, e_y10, hf⟩ := bd_e hf
        refine j_top e_y10 ?_
        refine j_istore7 X dX12_round_220 (by decide) rfl ?_
        refine j_iload X dX12_round_222 rfl ?_
        refine j_bipush (v := (9 : Int32)) X dX12_round_224 (by decide) ?_
        refine j_idiv X dX12_round_226 (by decide) ?_
        obtain ⟨y11, e_y11, hf⟩ := bd_e hf
        refine j_top e_y11 ?_
        refine j_istore8 X dX12_round_227 (by decide) rfl ?_
        refine j_goto (tgt := 199) X dX12_round_229 (by decide) ?_
        refine j_keep [false, false, false, true, false, true, true, true, true, false] rfl ?_
        exact ih _ _ _ _ _ _ hf
  have lab156 : ∀ (K84 : Mem → Int32 → Int32 → Int32 → Int32 → Int32 → Int32 → Option (Mem × Int32)) (hK84 : ∀ (μ : Mem) (x1 : Int32) (x3 : Int32) (x4 : Int32) (x5 : Int32) (x6 : Int32) (x7 : Int32), K84 μ x1 x3 x4 x5 x6 x7 = some r → J p l e (rmOf 6 138) s m args below meth c E A 10 Q (wM E h g μ) [some (.ref (h 0)), some (.int x1), none, some (.int x3), some (.int x4), some (.int x5), some (.int x6), some (.int x7), none, none] 84 []) (μ : Mem) (x1 : Int32) (x3 : Int32) (x4 : Int32) (x7 : Int32) (x8 : Int32), f_X12_round_L156 K84 μ x1 x3 x4 x7 x8 = some r → J p l e (rmOf 6 138) s m args below meth c E A 10 Q (wM E h g μ) [some (.ref (h 0)), some (.int x1), none, some (.int x3), some (.int x4), none, none, some (.int x7), some (.int x8), none] 156 [] := by
    intro K84 hK84 μ x1 x3 x4 x7 x8 hf
    rw [f_X12_round_L156] at hf
    refine j_iload X dX12_round_156 rfl ?_
    refine j_iconst (v := (1 : Int32)) X dX12_round_158 (by decide) ?_
    refine j_isub X dX12_round_159 ?_
    obtain ⟨y16, e_y16, hf⟩ := bd_e hf
    refine j_top e_y16 ?_
    refine j_istore5 X dX12_round_160 (by decide) rfl ?_
    refine j_iload X dX12_round_162 rfl ?_
    refine j_istore6 X dX12_round_164 (by decide) rfl ?_
    refine j_aload_n X dX12_round_166 rfl rfl ?_
    refine j_iconst (v := (0 : Int32)) X dX12_round_167 (by decide) ?_
    obtain ⟨q17, g_q17, hf⟩ := ob_t hf
    refine j_callV X [0, 1, 2, 3, 4, 5, 6, 7, 8, 9, 10, 11, 12, 13] 0 (c_X12_layBack E h g g_q17) (cut_wM_wM_c ..) rfl rfl (ws' := (wM E h g q17)) (cut_wM_wM_w ..) (wM_0 ..) rfl k_1190 k_1192 k_55 k_80 k_1193 (⟨rfl, rfl⟩) hdV_X12_layBack ⟨Nat.le_of_ble_eq_true rfl, Nat.le_of_ble_eq_true rfl⟩ rfl (Nat.le_of_ble_eq_true rfl) rfl dX12_round_168 ?_
    refine j_iinc7 (k := (1 : Int32)) X dX12_round_171 (by decide) (by decide) rfl ?_
    refine j_goto (tgt := 84) X dX12_round_174 (by decide) ?_
    refine j_keep [true, true, false, true, true, true, true, true, false, false] rfl ?_
    exact hK84 _ _ _ _ _ _ _ hf
  have lab101 : ∀ (K84 : Mem → Int32 → Int32 → Int32 → Int32 → Int32 → Int32 → Option (Mem × Int32)) (hK84 : ∀ (μ : Mem) (x1 : Int32) (x3 : Int32) (x4 : Int32) (x5 : Int32) (x6 : Int32) (x7 : Int32), K84 μ x1 x3 x4 x5 x6 x7 = some r → J p l e (rmOf 6 138) s m args below meth c E A 10 Q (wM E h g μ) [some (.ref (h 0)), some (.int x1), none, some (.int x3), some (.int x4), some (.int x5), some (.int x6), some (.int x7), none, none] 84 []) (n : Nat) (μ : Mem) (x1 : Int32) (x3 : Int32) (x4 : Int32) (x5 : Int32) (x6 : Int32) (x7 : Int32) (x8 : Int32) (x9 : Int32), f_X12_round_L101 K84 n μ x1 x3 x4 x5 x6 x7 x8 x9 = some r → J p l e (rmOf 6 138) s m args below meth c E A 10 Q (wM E h g μ) [some (.ref (h 0)), some (.int x1), none, some (.int x3), some (.int x4), some (.int x5), some (.int x6), some (.int x7), some (.int x8), some (.int x9)] 101 [] := by
    intro K84 hK84 n
    induction n with
    | zero => intro μ x1 x3 x4 x5 x6 x7 x8 x9 hf; cases (show none = some r from hf)
    | succ n ih =>
      intro μ x1 x3 x4 x5 x6 x7 x8 x9 hf
      rw [f_X12_round_L101] at hf
      refine j_iload X dX12_round_101 rfl ?_
      refine j_if_le (tgt := 133) X dX12_round_103 (by decide) (fun c_103 => ?_) (fun c_103 => ?_)
      · replace hf := (if_pos c_103).symm.trans hf
        refine j_aload_n X dX12_round_133 rfl rfl ?_
        refine j_iload_n X dX12_round_134 rfl rfl ?_
        obtain ⟨q14, g_q14, hf⟩ := ob_t hf
        refine j_callV X [0, 1, 2, 3, 4, 5, 6, 7, 8, 9, 10, 11, 12, 13] 0 (c_X12_stands E h g g_q14) (cut_wM_wM_c ..) rfl rfl (ws' := (wM E h g q14.1)) (cut_wM_wM_w ..) (wM_0 ..) rfl k_1093 k_1095 k_41 k_80 k_1096 (⟨rfl, rfl⟩) hdV_X12_stands ⟨Nat.le_of_ble_eq_true rfl, Nat.le_of_ble_eq_true rfl⟩ rfl (Nat.le_of_ble_eq_true rfl) rfl dX12_round_135 ?_
        refine j_if_ne (tgt := 166) X dX12_round_138 (by decide) (fun c_138 => ?_) (fun c_138 => ?_)
        · replace hf := (if_neg c_138).symm.trans hf
          refine j_aload_n X dX12_round_166 rfl rfl ?_
          refine j_iconst (v := (0 : Int32)) X dX12_round_167 (by decide) ?_
          obtain ⟨q15, g_q15, hf⟩ := ob_t hf
          refine j_callV X [0, 1, 2, 3, 4, 5, 6, 7, 8, 9, 10, 11, 12, 13] 0 (c_X12_layBack E h g g_q15) (cut_wM_wM_c ..) rfl rfl (ws' := (wM E h g q15)) (cut_wM_wM_w ..) (wM_0 ..) rfl k_1190 k_1192 k_55 k_80 k_1193 (⟨rfl, rfl⟩) hdV_X12_layBack ⟨Nat.le_of_ble_eq_true rfl, Nat.le_of_ble_eq_true rfl⟩ rfl (Nat.le_of_ble_eq_true rfl) rfl dX12_round_168 ?_
          refine j_iinc7 (k := (1 : Int32)) X dX12_round_171 (by decide) (by decide) rfl ?_
          refine j_goto (tgt := 84) X dX12_round_174 (by decide) ?_
          refine j_keep [true, true, false, true, true, true, true, true, false, false] rfl ?_
          exact hK84 _ _ _ _ _ _ _ hf
        · replace hf := (if_pos c_138).symm.trans hf
          refine j_iload X dX12_round_141 rfl ?_
          refine j_iconst (v := (-1 : Int32)) X dX12_round_143 (by decide) ?_
          refine j_icmp_eq (tgt := 156) X dX12_round_144 (by decide) (fun c_144 => ?_) (fun c_144 => ?_)
          · replace hf := (if_pos c_144).symm.trans hf
            refine j_keep [true, true, false, true, true, false, false, true, true, false] rfl ?_
            exact lab156 _ hK84 _ _ _ _ _ _ hf
          · replace hf := (if_neg c_144).symm.trans hf
            refine j_iload X dX12_round_147 rfl ?_
            refine j_iconst (v := (1 : Int32)) X dX12_round_149 (by decide) ?_
            refine j_isub X dX12_round_150 ?_
            refine j_iload X dX12_round_151 rfl ?_
            refine j_icmp_ge (tgt := 166) X dX12_round_153 (by decide) (fun c_153 => ?_) (fun c_153 => ?_)
            · replace hf := (if_pos c_153).symm.trans hf
              refine j_aload_n X dX12_round_166 rfl rfl ?_
              refine j_iconst (v := (0 : Int32)) X dX12_round_167 (by decide) ?_
              obtain ⟨q18, g_q18, hf⟩ := ob_t hf
              refine j_callV X [0, 1, 2, 3, 4, 5, 6, 7, 8, 9, 10, 11, 12, 13] 0 (c_X12_layBack E h g g_q18) (cut_wM_wM_c ..) rfl rfl (ws' := (wM E h g q18)) (cut_wM_wM_w ..) (wM_0 ..) rfl k_1190 k_1192 k_55 k_80 k_1193 (⟨rfl, rfl⟩) hdV_X12_layBack ⟨Nat.le_of_ble_eq_true rfl, Nat.le_of_ble_eq_true rfl⟩ rfl (Nat.le_of_ble_eq_true rfl) rfl dX12_round_168 ?_
              refine j_iinc7 (k := (1 : Int32)) X dX12_round_171 (by decide) (by decide) rfl ?_
              refine j_goto (tgt := 84) X dX12_round_174 (by decide) ?_
              refine j_keep [true, true, false, true, true, true, true, true, false, false] rfl ?_
              exact hK84 _ _ _ _ _ _ _ hf
            · replace hf := (if_neg c_153).symm.trans hf
              refine j_keep [true, true, false, true, true, false, false, true, true, false] rfl ?_
              exact lab156 _ hK84 _ _ _ _ _ _ hf
      · replace hf := (if_neg c_103).symm.trans hf
        refine j_iload X dX12_round_106 rfl ?_
        refine j_aload_n X dX12_round_108 rfl rfl ?_
        refine j_iload X dX12_round_109 rfl ?_
        refine j_iload X dX12_round_111 rfl ?_
        obtain ⟨c19, hf⟩ := oi_t hf
        refine j_idiv X dX12_round_113 c19 ?_
        refine j_bipush (v := (9 : Int32)) X dX12_round_114 (by decide) ?_
        refine j_irem X dX12_round_116 (by decide) ?_
        obtain ⟨q20, g_q20, hf⟩ := ob_t hf
        refine j_callV X [0, 1, 2, 3, 4, 5, 6, 7, 8, 9, 10, 11, 12, 13] 0 (c_X12_flyAt E h g g_q20) (cut_wM_wM_c ..) rfl rfl (ws' := (wM E h g q20.1)) (cut_wM_wM_w ..) (wM_0 ..) rfl k_1157 k_1159 k_51 k_80 k_1160 (⟨rfl, rfl⟩) hdV_X12_flyAt ⟨Nat.le_of_ble_eq_true rfl, Nat.le_of_ble_eq_true rfl⟩ rfl (Nat.le_of_ble_eq_true rfl) rfl dX12_round_117 ?_
        refine j_iadd X dX12_round_120 ?_
        obtain ⟨y21, e_y21, hf⟩ := bd_e hf
        refine j_top e_y21 ?_
        refine j_istore8 X dX12_round_121 (by decide) rfl ?_
        refine j_iload X dX12_round_123 rfl ?_
        refine j_bipush (v := (9 : Int32)) X dX12_round_125 (by decide) ?_
        refine j_idiv X dX12_round_127 (by decide) ?_
        obtain ⟨y22, e_y22, hf⟩ := bd_e hf
        refine j_top e_y22 ?_
        refine j_istore9 X dX12_round_128 (by decide) rfl ?_
        refine j_goto (tgt := 101) X dX12_round_130 (by decide) ?_
        refine j_keep [true, true, false, true, true, true, true, true, true, true] rfl ?_
        exact ih _ _ _ _ _ _ _ _ _ hf
  have lab84 : ∀ (n : Nat) (μ : Mem) (x1 : Int32) (x3 : Int32) (x4 : Int32) (x5 : Int32) (x6 : Int32) (x7 : Int32), f_X12_round_L84 n μ x1 x3 x4 x5 x6 x7 = some r → J p l e (rmOf 6 138) s m args below meth c E A 10 Q (wM E h g μ) [some (.ref (h 0)), some (.int x1), none, some (.int x3), some (.int x4), some (.int x5), some (.int x6), some (.int x7), none, none] 84 [] := by
    intro n
    induction n with
    | zero => intro μ x1 x3 x4 x5 x6 x7 hf; cases (show none = some r from hf)
    | succ n ih =>
      intro μ x1 x3 x4 x5 x6 x7 hf
      rw [f_X12_round_L84] at hf
      refine j_iload X dX12_round_84 rfl ?_
      refine j_iload X dX12_round_86 rfl ?_
      refine j_icmp_ge (tgt := 177) X dX12_round_88 (by decide) (fun c_88 => ?_) (fun c_88 => ?_)
      · replace hf := (if_pos c_88).symm.trans hf
        refine j_iload X dX12_round_177 rfl ?_
        refine j_iconst (v := (-1 : Int32)) X dX12_round_179 (by decide) ?_
        refine j_icmp_ne (tgt := 189) X dX12_round_180 (by decide) (fun c_180 => ?_) (fun c_180 => ?_)
        · replace hf := (if_neg c_180).symm.trans hf
          refine j_iconst (v := (0 : Int32)) X dX12_round_189 (by decide) ?_
          refine j_istore7 X dX12_round_190 (by decide) rfl ?_
          refine j_iload X dX12_round_192 rfl ?_
          refine j_bipush (v := (9 : Int32)) X dX12_round_194 (by decide) ?_
          refine j_idiv X dX12_round_196 (by decide) ?_
          obtain ⟨y8, e_y8, hf⟩ := bd_e hf
          refine j_top e_y8 ?_
          refine j_istore8 X dX12_round_197 (by decide) rfl ?_
          refine j_keep [false, false, false, true, false, true, true, true, true, false] rfl ?_
          exact lab199 _ _ _ _ _ _ _ hf
        · replace hf := (if_pos c_180).symm.trans hf
          refine j_aload_n X dX12_round_183 rfl rfl ?_
          refine j_iconst (v := (2 : Int32)) X dX12_round_184 (by decide) ?_
          obtain ⟨q12, g_q12, hf⟩ := ob_t hf
          refine j_callV X [0, 1, 2, 3, 4, 5, 6, 7, 8, 9, 10, 11, 12, 13] 0 (c_X12_error E h g g_q12) (cut_wM_wM_c ..) rfl rfl (ws' := (wM E h g q12.1)) (cut_wM_wM_w ..) (wM_0 ..) rfl k_987 k_989 k_24 k_80 k_990 (⟨rfl, rfl⟩) hdV_X12_error ⟨Nat.le_of_ble_eq_true rfl, Nat.le_of_ble_eq_true rfl⟩ rfl (Nat.le_of_ble_eq_true rfl) rfl dX12_round_185 ?_
          obtain rfl := Option.some.inj hf
          exact j_iret X hr hlk rfl dX12_round_188 hQ
      · replace hf := (if_neg c_88).symm.trans hf
        refine j_iconst (v := (0 : Int32)) X dX12_round_91 (by decide) ?_
        refine j_istore8 X dX12_round_92 (by decide) rfl ?_
        refine j_iload X dX12_round_94 rfl ?_
        refine j_bipush (v := (9 : Int32)) X dX12_round_96 (by decide) ?_
        refine j_idiv X dX12_round_98 (by decide) ?_
        obtain ⟨y13, e_y13, hf⟩ := bd_e hf
        refine j_top e_y13 ?_
        refine j_istore9 X dX12_round_99 (by decide) rfl ?_
        refine j_keep [true, true, false, true, true, true, true, true, true, true] rfl ?_
        exact lab101 _ ih _ _ _ _ _ _ _ _ _ _ hf
  have lab68 : ∀ (μ : Mem) (x1 : Int32) (x3 : Int32) (t0 : Int32), f_X12_round_L68 μ x1 x3 t0 = some r → J p l e (rmOf 6 138) s m args below meth c E A 10 Q (wM E h g μ) [some (.ref (h 0)), some (.int x1), none, some (.int x3), none, none, none, none, none, none] 68 [.int t0] := by
    intro  μ x1 x3 t0 hf
    rw [f_X12_round_L68] at hf
    refine j_istore4 X dX12_round_68 (by decide) rfl ?_
    refine j_iconst (v := (-1 : Int32)) X dX12_round_70 (by decide) ?_
    refine j_istore5 X dX12_round_71 (by decide) rfl ?_
    refine j_iconst (v := (0 : Int32)) X dX12_round_73 (by decide) ?_
    refine j_istore6 X dX12_round_74 (by decide) rfl ?_
    refine j_aload_n X dX12_round_76 rfl rfl ?_
    refine j_iconst (v := (0 : Int32)) X dX12_round_77 (by decide) ?_
    obtain ⟨q7, g_q7, hf⟩ := ob_t hf
    refine j_callV X [0, 1, 2, 3, 4, 5, 6, 7, 8, 9, 10, 11, 12, 13] 0 (c_X12_layDown E h g g_q7) (cut_wM_wM_c ..) rfl rfl (ws' := (wM E h g q7)) (cut_wM_wM_w ..) (wM_0 ..) rfl k_1186 k_1188 k_54 k_80 k_1189 (⟨rfl, rfl⟩) hdV_X12_layDown ⟨Nat.le_of_ble_eq_true rfl, Nat.le_of_ble_eq_true rfl⟩ rfl (Nat.le_of_ble_eq_true rfl) rfl dX12_round_78 ?_
    refine j_iconst (v := (0 : Int32)) X dX12_round_81 (by decide) ?_
    refine j_istore7 X dX12_round_82 (by decide) rfl ?_
    refine j_keep [true, true, false, true, true, true, true, true, false, false] rfl ?_
    exact lab84 _ _ _ _ _ _ _ _ hf
  rw [f_X12_round] at hf
  refine j_iload_n X dX12_round_0 rfl rfl ?_
  obtain ⟨q1, g_q1, hf⟩ := ob_t hf
  refine j_callS X [] (c_X12_isOne E g_q1) rfl rfl rfl (ws' := (wM E h g μ)) rfl k_1049 k_1050 k_80 k_1051 (⟨rfl, rfl⟩) hdS_X12_isOne ⟨Nat.le_of_ble_eq_true rfl, Nat.le_of_ble_eq_true rfl⟩ rfl (Nat.le_of_ble_eq_true rfl) rfl dX12_round_1 ?_
  refine j_if_eq (tgt := 25) X dX12_round_4 (by decide) (fun c_4 => ?_) (fun c_4 => ?_)
  · replace hf := (if_pos c_4).symm.trans hf
    refine j_aload_n X dX12_round_25 rfl rfl ?_
    refine j_iconst (v := (1 : Int32)) X dX12_round_26 (by decide) ?_
    obtain ⟨q2, g_q2, hf⟩ := ob_t hf
    refine j_callV X [0, 1, 2, 3, 4, 5, 6, 7, 8, 9, 10, 11, 12, 13] 0 (c_X12_error E h g g_q2) (cut_wM_wM_c ..) rfl rfl (ws' := (wM E h g q2.1)) (cut_wM_wM_w ..) (wM_0 ..) rfl k_987 k_989 k_24 k_80 k_990 (⟨rfl, rfl⟩) hdV_X12_error ⟨Nat.le_of_ble_eq_true rfl, Nat.le_of_ble_eq_true rfl⟩ rfl (Nat.le_of_ble_eq_true rfl) rfl dX12_round_27 ?_
    obtain rfl := Option.some.inj hf
    exact j_iret X hr hlk rfl dX12_round_30 hQ
  · replace hf := (if_neg c_4).symm.trans hf
    refine j_iload_n X dX12_round_7 rfl rfl ?_
    refine j_iconst (v := (1 : Int32)) X dX12_round_8 (by decide) ?_
    refine j_iconst (v := (3 : Int32)) X dX12_round_9 (by decide) ?_
    obtain ⟨q3, g_q3, hf⟩ := ob_t hf
    refine j_callS X [] (c_X12_in E g_q3) rfl rfl rfl (ws' := (wM E h g μ)) rfl k_984 k_985 k_80 k_986 (⟨rfl, rfl⟩) hdS_X12_in ⟨Nat.le_of_ble_eq_true rfl, Nat.le_of_ble_eq_true rfl⟩ rfl (Nat.le_of_ble_eq_true rfl) rfl dX12_round_10 ?_
    refine j_if_eq (tgt := 25) X dX12_round_13 (by decide) (fun c_13 => ?_) (fun c_13 => ?_)
    · replace hf := (if_pos c_13).symm.trans hf
      refine j_aload_n X dX12_round_25 rfl rfl ?_
      refine j_iconst (v := (1 : Int32)) X dX12_round_26 (by decide) ?_
      obtain ⟨q4, g_q4, hf⟩ := ob_t hf
      refine j_callV X [0, 1, 2, 3, 4, 5, 6, 7, 8, 9, 10, 11, 12, 13] 0 (c_X12_error E h g g_q4) (cut_wM_wM_c ..) rfl rfl (ws' := (wM E h g q4.1)) (cut_wM_wM_w ..) (wM_0 ..) rfl k_987 k_989 k_24 k_80 k_990 (⟨rfl, rfl⟩) hdV_X12_error ⟨Nat.le_of_ble_eq_true rfl, Nat.le_of_ble_eq_true rfl⟩ rfl (Nat.le_of_ble_eq_true rfl) rfl dX12_round_27 ?_
      obtain rfl := Option.some.inj hf
      exact j_iret X hr hlk rfl dX12_round_30 hQ
    · replace hf := (if_neg c_13).symm.trans hf
      refine j_iload_n X dX12_round_16 rfl rfl ?_
      refine j_iconst (v := (0 : Int32)) X dX12_round_17 (by decide) ?_
      refine j_iconst (v := (1 : Int32)) X dX12_round_18 (by decide) ?_
      obtain ⟨q5, g_q5, hf⟩ := ob_t hf
      refine j_callS X [] (c_X12_in E g_q5) rfl rfl rfl (ws' := (wM E h g μ)) rfl k_984 k_985 k_80 k_986 (⟨rfl, rfl⟩) hdS_X12_in ⟨Nat.le_of_ble_eq_true rfl, Nat.le_of_ble_eq_true rfl⟩ rfl (Nat.le_of_ble_eq_true rfl) rfl dX12_round_19 ?_
      refine j_if_ne (tgt := 31) X dX12_round_22 (by decide) (fun c_22 => ?_) (fun c_22 => ?_)
      · replace hf := (if_neg c_22).symm.trans hf
        refine j_aload_n X dX12_round_31 rfl rfl ?_
        refine j_iload_n X dX12_round_32 rfl rfl ?_
        obtain ⟨q6, g_q6, hf⟩ := ob_t hf
        refine j_callV X [0, 1, 2, 3, 4, 5, 6, 7, 8, 9, 10, 11, 12, 13] 0 (c_X12_stands E h g g_q6) (cut_wM_wM_c ..) rfl rfl (ws' := (wM E h g q6.1)) (cut_wM_wM_w ..) (wM_0 ..) rfl k_1093 k_1095 k_41 k_80 k_1096 (⟨rfl, rfl⟩) hdV_X12_stands ⟨Nat.le_of_ble_eq_true rfl, Nat.le_of_ble_eq_true rfl⟩ rfl (Nat.le_of_ble_eq_true rfl) rfl dX12_round_33 ?_
        refine j_if_ne (tgt := 45) X dX12_round_36 (by decide) (fun c_36 => ?_) (fun c_36 => ?_)
        · replace hf := (if_neg c_36).symm.trans hf
          refine j_iload_n X dX12_round_45 rfl rfl ?_
          refine j_iconst (v := (1 : Int32)) X dX12_round_46 (by decide) ?_
          refine j_icmp_ne (tgt := 55) X dX12_round_47 (by decide) (fun c_47 => ?_) (fun c_47 => ?_)
          · replace hf := (if_neg c_47).symm.trans hf
            refine j_iload_n X dX12_round_55 rfl rfl ?_
            refine j_iconst (v := (2 : Int32)) X dX12_round_56 (by decide) ?_
            refine j_icmp_ne (tgt := 65) X dX12_round_57 (by decide) (fun c_57 => ?_) (fun c_57 => ?_)
            · replace hf := (if_neg c_57).symm.trans hf
              refine j_sipush (v := (729 : Int32)) X dX12_round_65 (by decide) ?_
              refine j_keep [true, true, false, true, false, false, false, false, false, false] rfl ?_
              exact lab68 _ _ _ _ hf
            · replace hf := (if_pos c_57).symm.trans hf
              refine j_bipush (v := (81 : Int32)) X dX12_round_60 (by decide) ?_
              refine j_goto (tgt := 68) X dX12_round_62 (by decide) ?_
              refine j_keep [true, true, false, true, false, false, false, false, false, false] rfl ?_
              exact lab68 _ _ _ _ hf
          · replace hf := (if_pos c_47).symm.trans hf
            refine j_bipush (v := (9 : Int32)) X dX12_round_50 (by decide) ?_
            refine j_goto (tgt := 68) X dX12_round_52 (by decide) ?_
            refine j_keep [true, true, false, true, false, false, false, false, false, false] rfl ?_
            exact lab68 _ _ _ _ hf
        · replace hf := (if_pos c_36).symm.trans hf
          refine j_aload_n X dX12_round_39 rfl rfl ?_
          refine j_iconst (v := (3 : Int32)) X dX12_round_40 (by decide) ?_
          obtain ⟨q23, g_q23, hf⟩ := ob_t hf
          refine j_callV X [0, 1, 2, 3, 4, 5, 6, 7, 8, 9, 10, 11, 12, 13] 0 (c_X12_error E h g g_q23) (cut_wM_wM_c ..) rfl rfl (ws' := (wM E h g q23.1)) (cut_wM_wM_w ..) (wM_0 ..) rfl k_987 k_989 k_24 k_80 k_990 (⟨rfl, rfl⟩) hdV_X12_error ⟨Nat.le_of_ble_eq_true rfl, Nat.le_of_ble_eq_true rfl⟩ rfl (Nat.le_of_ble_eq_true rfl) rfl dX12_round_41 ?_
          obtain rfl := Option.some.inj hf
          exact j_iret X hr hlk rfl dX12_round_44 hQ
      · replace hf := (if_pos c_22).symm.trans hf
        refine j_aload_n X dX12_round_25 rfl rfl ?_
        refine j_iconst (v := (1 : Int32)) X dX12_round_26 (by decide) ?_
        obtain ⟨q24, g_q24, hf⟩ := ob_t hf
        refine j_callV X [0, 1, 2, 3, 4, 5, 6, 7, 8, 9, 10, 11, 12, 13] 0 (c_X12_error E h g g_q24) (cut_wM_wM_c ..) rfl rfl (ws' := (wM E h g q24.1)) (cut_wM_wM_w ..) (wM_0 ..) rfl k_987 k_989 k_24 k_80 k_990 (⟨rfl, rfl⟩) hdV_X12_error ⟨Nat.le_of_ble_eq_true rfl, Nat.le_of_ble_eq_true rfl⟩ rfl (Nat.le_of_ble_eq_true rfl) rfl dX12_round_27 ?_
        obtain rfl := Option.some.inj hf
        exact j_iret X hr hlk rfl dX12_round_30 hQ
def f_X12_change_L94 (K44 : Mem → Int32 → Int32 → Int32 → Int32 → Int32 → Option (Mem × Int32)) (μ : Mem) (x1 : Int32) (x2 : Int32) (x5 : Int32) : Option (Mem × Int32) := (if inb x1 9 = true then bd (μ 8 x1.toNatClampNeg) fun y10 => (K44 μ x1 x2 x5 y10 (x5 + (1 : Int32))) else none)
def f_X12_change_L44 : Nat → Mem → Int32 → Int32 → Int32 → Int32 → Int32 → Option (Mem × Int32)
  | 0, _, _, _, _, _, _ => none
  | n + 1, μ, x1, x2, x3, x4, x5 => (if (9 : Int32) ≤ x5 then (if x2 = 0 then some (μ, x3) else some (μ, x4)) else (f_X12_stands μ x5).bind fun q5 => ((if q5.2 = 0 then (f_X12_change_L44 n) q5.1 x1 x2 x3 x4 (x5 + (1 : Int32)) else (f_X12_swaps q5.1 x1 x5).bind fun q6 => ((f_X12_lastAll q6).bind fun q7 => ((f_X12_swaps q7 x1 x5).bind fun q8 => ((if x3 = (-1 : Int32) then f_X12_change_L94 (f_X12_change_L44 n) q8 x1 x2 x5 else (if inb x1 9 = true then (if (q8 8 x1.toNatClampNeg) ≤ x4 then (f_X12_change_L44 n) q8 x1 x2 x3 x4 (x5 + (1 : Int32)) else f_X12_change_L94 (f_X12_change_L44 n) q8 x1 x2 x5) else none))))))))
def f_X12_change (μ : Mem) (x1 : Int32) (x2 : Int32) : Option (Mem × Int32) := (f_X12_isOne x1).bind fun q1 => ((if q1 = 0 then (f_X12_error μ (1 : Int32)).bind fun q2 => (some (q2.1, q2.2)) else (f_X12_in x2 (0 : Int32) (1 : Int32)).bind fun q3 => ((if q3 = 0 then (f_X12_error μ (1 : Int32)).bind fun q13 => (some (q13.1, q13.2)) else (f_X12_stands μ x1).bind fun q4 => ((if q4.2 = 0 then (f_X12_error q4.1 (3 : Int32)).bind fun q12 => (some (q12.1, q12.2)) else f_X12_change_L44 fuel0 q4.1 x1 x2 (-1 : Int32) (0 : Int32) (0 : Int32)))))))
set_option maxHeartbeats 4000000 in
set_option maxRecDepth 20000 in
theorem c_X12_change (E : Ev) (h : Nat → Nat) (g : Nat → Option Nat) {μ : Mem} {x1 : Int32} {x2 : Int32} {r : (Mem × Int32)} (hf : f_X12_change μ x1 x2 = some r) : Ct E yX12_change cX12_change 6 (some .int) (rmOf 7 160) (wM E h g μ) (wM E h g r.1) [.ref (h 0), .int x1, .int x2] (some (.int r.2)) := by
  refine ct_start RX12 3 (by decide) rfl (Nat.le_of_ble_eq_true rfl) ?_
  intro p l e s m args below meth c A Q X hr hlk hQ
  have lab94 : ∀ (K44 : Mem → Int32 → Int32 → Int32 → Int32 → Int32 → Option (Mem × Int32)) (hK44 : ∀ (μ : Mem) (x1 : Int32) (x2 : Int32) (x3 : Int32) (x4 : Int32) (x5 : Int32), K44 μ x1 x2 x3 x4 x5 = some r → J p l e (rmOf 7 160) s m args below meth c E A 6 Q (wM E h g μ) [some (.ref (h 0)), some (.int x1), some (.int x2), some (.int x3), some (.int x4), some (.int x5)] 44 []) (μ : Mem) (x1 : Int32) (x2 : Int32) (x5 : Int32), f_X12_change_L94 K44 μ x1 x2 x5 = some r → J p l e (rmOf 7 160) s m args below meth c E A 6 Q (wM E h g μ) [some (.ref (h 0)), some (.int x1), some (.int x2), none, none, some (.int x5)] 94 [] := by
    intro K44 hK44 μ x1 x2 x5 hf
    rw [f_X12_change_L94] at hf
    refine j_iload X dX12_change_94 rfl ?_
    refine j_istore_n3 X dX12_change_96 rfl (by decide) rfl ?_
    refine j_aload_n X dX12_change_97 rfl rfl ?_
    refine j_get (C := RX12) (T := TX12) (N := 21) X iX12 0 (wM_0 ..) rfl 12 (by decide) k_928 rfl rfl dX12_change_98 ?_
    refine j_iload_n X dX12_change_101 rfl rfl ?_
    obtain ⟨c9, hf⟩ := oi_in hf
    refine j_iald X 8 (wM_8 ..) c9 dX12_change_102 ?_
    obtain ⟨y10, e_y10, hf⟩ := bd_e hf
    refine j_top e_y10 ?_
    refine j_istore4 X dX12_change_103 (by decide) rfl ?_
    refine j_iinc5 (k := (1 : Int32)) X dX12_change_105 (by decide) (by decide) rfl ?_
    refine j_goto (tgt := 44) X dX12_change_108 (by decide) ?_
    refine j_keep [true, true, true, true, true, true] rfl ?_
    exact hK44 _ _ _ _ _ _ hf
  have lab44 : ∀ (n : Nat) (μ : Mem) (x1 : Int32) (x2 : Int32) (x3 : Int32) (x4 : Int32) (x5 : Int32), f_X12_change_L44 n μ x1 x2 x3 x4 x5 = some r → J p l e (rmOf 7 160) s m args below meth c E A 6 Q (wM E h g μ) [some (.ref (h 0)), some (.int x1), some (.int x2), some (.int x3), some (.int x4), some (.int x5)] 44 [] := by
    intro n
    induction n with
    | zero => intro μ x1 x2 x3 x4 x5 hf; cases (show none = some r from hf)
    | succ n ih =>
      intro μ x1 x2 x3 x4 x5 hf
      rw [f_X12_change_L44] at hf
      refine j_iload X dX12_change_44 rfl ?_
      refine j_bipush (v := (9 : Int32)) X dX12_change_46 (by decide) ?_
      refine j_icmp_ge (tgt := 111) X dX12_change_48 (by decide) (fun c_48 => ?_) (fun c_48 => ?_)
      · replace hf := (if_pos c_48).symm.trans hf
        refine j_iload_n X dX12_change_111 rfl rfl ?_
        refine j_if_ne (tgt := 119) X dX12_change_112 (by decide) (fun c_112 => ?_) (fun c_112 => ?_)
        · replace hf := (if_neg c_112).symm.trans hf
          refine j_iload X dX12_change_119 rfl ?_
          obtain rfl := Option.some.inj hf
          exact j_iret X hr hlk rfl dX12_change_121 hQ
        · replace hf := (if_pos c_112).symm.trans hf
          refine j_iload_n X dX12_change_115 rfl rfl ?_
          refine j_goto (tgt := 121) X dX12_change_116 (by decide) ?_
          obtain rfl := Option.some.inj hf
          exact j_iret X hr hlk rfl dX12_change_121 hQ
      · replace hf := (if_neg c_48).symm.trans hf
        refine j_aload_n X dX12_change_51 rfl rfl ?_
        refine j_iload X dX12_change_52 rfl ?_
        obtain ⟨q5, g_q5, hf⟩ := ob_t hf
        refine j_callV X [0, 1, 2, 3, 4, 5, 6, 7, 8, 9, 10, 11, 12, 13] 0 (c_X12_stands E h g g_q5) (cut_wM_wM_c ..) rfl rfl (ws' := (wM E h g q5.1)) (cut_wM_wM_w ..) (wM_0 ..) rfl k_1093 k_1095 k_41 k_80 k_1096 (⟨rfl, rfl⟩) hdV_X12_stands ⟨Nat.le_of_ble_eq_true rfl, Nat.le_of_ble_eq_true rfl⟩ rfl (Nat.le_of_ble_eq_true rfl) rfl dX12_change_54 ?_
        refine j_if_eq (tgt := 105) X dX12_change_57 (by decide) (fun c_57 => ?_) (fun c_57 => ?_)
        · replace hf := (if_pos c_57).symm.trans hf
          refine j_iinc5 (k := (1 : Int32)) X dX12_change_105 (by decide) (by decide) rfl ?_
          refine j_goto (tgt := 44) X dX12_change_108 (by decide) ?_
          refine j_keep [true, true, true, true, true, true] rfl ?_
          exact ih _ _ _ _ _ _ hf
        · replace hf := (if_neg c_57).symm.trans hf
          refine j_aload_n X dX12_change_60 rfl rfl ?_
          refine j_iload_n X dX12_change_61 rfl rfl ?_
          refine j_iload X dX12_change_62 rfl ?_
          obtain ⟨q6, g_q6, hf⟩ := ob_t hf
          refine j_callV X [0, 1, 2, 3, 4, 5, 6, 7, 8, 9, 10, 11, 12, 13] 0 (c_X12_swaps E h g g_q6) (cut_wM_wM_c ..) rfl rfl (ws' := (wM E h g q6)) (cut_wM_wM_w ..) (wM_0 ..) rfl k_1117 k_1119 k_46 k_80 k_1120 (⟨rfl, rfl⟩) hdV_X12_swaps ⟨Nat.le_of_ble_eq_true rfl, Nat.le_of_ble_eq_true rfl⟩ rfl (Nat.le_of_ble_eq_true rfl) rfl dX12_change_64 ?_
          refine j_aload_n X dX12_change_67 rfl rfl ?_
          obtain ⟨q7, g_q7, hf⟩ := ob_t hf
          refine j_callV X [0, 1, 2, 3, 4, 5, 6, 7, 8, 9, 10, 11, 12, 13] 0 (c_X12_lastAll E h g g_q7) (cut_wM_wM_c ..) rfl rfl (ws' := (wM E h g q7)) (cut_wM_wM_w ..) (wM_0 ..) rfl k_1206 k_1208 k_57 k_80 k_1209 (⟨rfl, rfl⟩) hdV_X12_lastAll ⟨Nat.le_of_ble_eq_true rfl, Nat.le_of_ble_eq_true rfl⟩ rfl (Nat.le_of_ble_eq_true rfl) rfl dX12_change_68 ?_
          refine j_aload_n X dX12_change_71 rfl rfl ?_
          refine j_iload_n X dX12_change_72 rfl rfl ?_
          refine j_iload X dX12_change_73 rfl ?_
          obtain ⟨q8, g_q8, hf⟩ := ob_t hf
          refine j_callV X [0, 1, 2, 3, 4, 5, 6, 7, 8, 9, 10, 11, 12, 13] 0 (c_X12_swaps E h g g_q8) (cut_wM_wM_c ..) rfl rfl (ws' := (wM E h g q8)) (cut_wM_wM_w ..) (wM_0 ..) rfl k_1117 k_1119 k_46 k_80 k_1120 (⟨rfl, rfl⟩) hdV_X12_swaps ⟨Nat.le_of_ble_eq_true rfl, Nat.le_of_ble_eq_true rfl⟩ rfl (Nat.le_of_ble_eq_true rfl) rfl dX12_change_75 ?_
          refine j_iload_n X dX12_change_78 rfl rfl ?_
          refine j_iconst (v := (-1 : Int32)) X dX12_change_79 (by decide) ?_
          refine j_icmp_eq (tgt := 94) X dX12_change_80 (by decide) (fun c_80 => ?_) (fun c_80 => ?_)
          · replace hf := (if_pos c_80).symm.trans hf
            refine j_keep [true, true, true, false, false, true] rfl ?_
            exact lab94 _ ih _ _ _ _ hf
          · replace hf := (if_neg c_80).symm.trans hf
            refine j_aload_n X dX12_change_83 rfl rfl ?_
            refine j_get (C := RX12) (T := TX12) (N := 21) X iX12 0 (wM_0 ..) rfl 12 (by decide) k_928 rfl rfl dX12_change_84 ?_
            refine j_iload_n X dX12_change_87 rfl rfl ?_
            obtain ⟨c11, hf⟩ := oi_in hf
            refine j_iald X 8 (wM_8 ..) c11 dX12_change_88 ?_
            refine j_iload X dX12_change_89 rfl ?_
            refine j_icmp_le (tgt := 105) X dX12_change_91 (by decide) (fun c_91 => ?_) (fun c_91 => ?_)
            · replace hf := (if_pos c_91).symm.trans hf
              refine j_iinc5 (k := (1 : Int32)) X dX12_change_105 (by decide) (by decide) rfl ?_
              refine j_goto (tgt := 44) X dX12_change_108 (by decide) ?_
              refine j_keep [true, true, true, true, true, true] rfl ?_
              exact ih _ _ _ _ _ _ hf
            · replace hf := (if_neg c_91).symm.trans hf
              refine j_keep [true, true, true, false, false, true] rfl ?_
              exact lab94 _ ih _ _ _ _ hf
  rw [f_X12_change] at hf
  refine j_iload_n X dX12_change_0 rfl rfl ?_
  obtain ⟨q1, g_q1, hf⟩ := ob_t hf
  refine j_callS X [] (c_X12_isOne E g_q1) rfl rfl rfl (ws' := (wM E h g μ)) rfl k_1049 k_1050 k_80 k_1051 (⟨rfl, rfl⟩) hdS_X12_isOne ⟨Nat.le_of_ble_eq_true rfl, Nat.le_of_ble_eq_true rfl⟩ rfl (Nat.le_of_ble_eq_true rfl) rfl dX12_change_1 ?_
  refine j_if_eq (tgt := 16) X dX12_change_4 (by decide) (fun c_4 => ?_) (fun c_4 => ?_)
  · replace hf := (if_pos c_4).symm.trans hf
    refine j_aload_n X dX12_change_16 rfl rfl ?_
    refine j_iconst (v := (1 : Int32)) X dX12_change_17 (by decide) ?_
    obtain ⟨q2, g_q2, hf⟩ := ob_t hf
    refine j_callV X [0, 1, 2, 3, 4, 5, 6, 7, 8, 9, 10, 11, 12, 13] 0 (c_X12_error E h g g_q2) (cut_wM_wM_c ..) rfl rfl (ws' := (wM E h g q2.1)) (cut_wM_wM_w ..) (wM_0 ..) rfl k_987 k_989 k_24 k_80 k_990 (⟨rfl, rfl⟩) hdV_X12_error ⟨Nat.le_of_ble_eq_true rfl, Nat.le_of_ble_eq_true rfl⟩ rfl (Nat.le_of_ble_eq_true rfl) rfl dX12_change_18 ?_
    obtain rfl := Option.some.inj hf
    exact j_iret X hr hlk rfl dX12_change_21 hQ
  · replace hf := (if_neg c_4).symm.trans hf
    refine j_iload_n X dX12_change_7 rfl rfl ?_
    refine j_iconst (v := (0 : Int32)) X dX12_change_8 (by decide) ?_
    refine j_iconst (v := (1 : Int32)) X dX12_change_9 (by decide) ?_
    obtain ⟨q3, g_q3, hf⟩ := ob_t hf
    refine j_callS X [] (c_X12_in E g_q3) rfl rfl rfl (ws' := (wM E h g μ)) rfl k_984 k_985 k_80 k_986 (⟨rfl, rfl⟩) hdS_X12_in ⟨Nat.le_of_ble_eq_true rfl, Nat.le_of_ble_eq_true rfl⟩ rfl (Nat.le_of_ble_eq_true rfl) rfl dX12_change_10 ?_
    refine j_if_ne (tgt := 22) X dX12_change_13 (by decide) (fun c_13 => ?_) (fun c_13 => ?_)
    · replace hf := (if_neg c_13).symm.trans hf
      refine j_aload_n X dX12_change_22 rfl rfl ?_
      refine j_iload_n X dX12_change_23 rfl rfl ?_
      obtain ⟨q4, g_q4, hf⟩ := ob_t hf
      refine j_callV X [0, 1, 2, 3, 4, 5, 6, 7, 8, 9, 10, 11, 12, 13] 0 (c_X12_stands E h g g_q4) (cut_wM_wM_c ..) rfl rfl (ws' := (wM E h g q4.1)) (cut_wM_wM_w ..) (wM_0 ..) rfl k_1093 k_1095 k_41 k_80 k_1096 (⟨rfl, rfl⟩) hdV_X12_stands ⟨Nat.le_of_ble_eq_true rfl, Nat.le_of_ble_eq_true rfl⟩ rfl (Nat.le_of_ble_eq_true rfl) rfl dX12_change_24 ?_
      refine j_if_ne (tgt := 36) X dX12_change_27 (by decide) (fun c_27 => ?_) (fun c_27 => ?_)
      · replace hf := (if_neg c_27).symm.trans hf
        refine j_iconst (v := (-1 : Int32)) X dX12_change_36 (by decide) ?_
        refine j_istore_n3 X dX12_change_37 rfl (by decide) rfl ?_
        refine j_iconst (v := (0 : Int32)) X dX12_change_38 (by decide) ?_
        refine j_istore4 X dX12_change_39 (by decide) rfl ?_
        refine j_iconst (v := (0 : Int32)) X dX12_change_41 (by decide) ?_
        refine j_istore5 X dX12_change_42 (by decide) rfl ?_
        refine j_keep [true, true, true, true, true, true] rfl ?_
        exact lab44 _ _ _ _ _ _ _ hf
      · replace hf := (if_pos c_27).symm.trans hf
        refine j_aload_n X dX12_change_30 rfl rfl ?_
        refine j_iconst (v := (3 : Int32)) X dX12_change_31 (by decide) ?_
        obtain ⟨q12, g_q12, hf⟩ := ob_t hf
        refine j_callV X [0, 1, 2, 3, 4, 5, 6, 7, 8, 9, 10, 11, 12, 13] 0 (c_X12_error E h g g_q12) (cut_wM_wM_c ..) rfl rfl (ws' := (wM E h g q12.1)) (cut_wM_wM_w ..) (wM_0 ..) rfl k_987 k_989 k_24 k_80 k_990 (⟨rfl, rfl⟩) hdV_X12_error ⟨Nat.le_of_ble_eq_true rfl, Nat.le_of_ble_eq_true rfl⟩ rfl (Nat.le_of_ble_eq_true rfl) rfl dX12_change_32 ?_
        obtain rfl := Option.some.inj hf
        exact j_iret X hr hlk rfl dX12_change_35 hQ
    · replace hf := (if_pos c_13).symm.trans hf
      refine j_aload_n X dX12_change_16 rfl rfl ?_
      refine j_iconst (v := (1 : Int32)) X dX12_change_17 (by decide) ?_
      obtain ⟨q13, g_q13, hf⟩ := ob_t hf
      refine j_callV X [0, 1, 2, 3, 4, 5, 6, 7, 8, 9, 10, 11, 12, 13] 0 (c_X12_error E h g g_q13) (cut_wM_wM_c ..) rfl rfl (ws' := (wM E h g q13.1)) (cut_wM_wM_w ..) (wM_0 ..) rfl k_987 k_989 k_24 k_80 k_990 (⟨rfl, rfl⟩) hdV_X12_error ⟨Nat.le_of_ble_eq_true rfl, Nat.le_of_ble_eq_true rfl⟩ rfl (Nat.le_of_ble_eq_true rfl) rfl dX12_change_18 ?_
      obtain rfl := Option.some.inj hf
      exact j_iret X hr hlk rfl dX12_change_21 hQ
def f_X12_bitsOf_L4 : Nat → Int32 → Int32 → Option Int32
  | 0, _, _ => none
  | n + 1, x1, x2 => (if x2 = 0 then some x1 else bd (x2 &&& (x2 - (1 : Int32))) fun y1 => ((f_X12_bitsOf_L4 n) (x1 + (1 : Int32)) y1))
def f_X12_bitsOf (x0 : Int32) : Option Int32 := f_X12_bitsOf_L4 fuel0 (0 : Int32) x0
set_option maxHeartbeats 4000000 in
set_option maxRecDepth 20000 in
theorem c_X12_bitsOf (E : Ev) {x0 : Int32} {r : Int32} (hf : f_X12_bitsOf x0 = some r) : Ct E yX12_bitsOf cX12_bitsOf 3 (some .int) (rmOf 0 0) [] [] [.int x0] (some (.int r)) := by
  refine ct_start RX12 2 (by decide) rfl (Nat.le_of_ble_eq_true rfl) ?_
  intro p l e s m args below meth c A Q X hr hlk hQ
  have lab4 : ∀ (n : Nat) (x1 : Int32) (x2 : Int32), f_X12_bitsOf_L4 n x1 x2 = some r → J p l e (rmOf 0 0) s m args below meth c E A 3 Q [] [none, some (.int x1), some (.int x2)] 4 [] := by
    intro n
    induction n with
    | zero => intro x1 x2 hf; cases (show none = some r from hf)
    | succ n ih =>
      intro x1 x2 hf
      rw [f_X12_bitsOf_L4] at hf
      refine j_iload_n X dX12_bitsOf_4 rfl rfl ?_
      refine j_if_eq (tgt := 20) X dX12_bitsOf_5 (by decide) (fun c_5 => ?_) (fun c_5 => ?_)
      · replace hf := (if_pos c_5).symm.trans hf
        refine j_iload_n X dX12_bitsOf_20 rfl rfl ?_
        obtain rfl := Option.some.inj hf
        exact j_iret X hr hlk rfl dX12_bitsOf_21 hQ
      · replace hf := (if_neg c_5).symm.trans hf
        refine j_iinc1 (k := (1 : Int32)) X dX12_bitsOf_8 (by decide) (by decide) rfl ?_
        refine j_iload_n X dX12_bitsOf_11 rfl rfl ?_
        refine j_iload_n X dX12_bitsOf_12 rfl rfl ?_
        refine j_iconst (v := (1 : Int32)) X dX12_bitsOf_13 (by decide) ?_
        refine j_isub X dX12_bitsOf_14 ?_
        refine j_iand X dX12_bitsOf_15 ?_
        obtain ⟨y1, e_y1, hf⟩ := bd_e hf
        refine j_top e_y1 ?_
        refine j_istore_n2 X dX12_bitsOf_16 rfl (by decide) rfl ?_
        refine j_goto (tgt := 4) X dX12_bitsOf_17 (by decide) ?_
        refine j_keep [false, true, true] rfl ?_
        exact ih _ _ hf
  rw [f_X12_bitsOf] at hf
  refine j_iconst (v := (0 : Int32)) X dX12_bitsOf_0 (by decide) ?_
  refine j_istore_n1 X dX12_bitsOf_1 rfl (by decide) rfl ?_
  refine j_iload_n X dX12_bitsOf_2 rfl rfl ?_
  refine j_istore_n2 X dX12_bitsOf_3 rfl (by decide) rfl ?_
  refine j_keep [false, true, true] rfl ?_
  exact lab4 _ _ _ hf
def f_X12_standSet_L4 : Nat → Mem → Int32 → Int32 → Option (Mem × Int32)
  | 0, _, _, _ => none
  | n + 1, μ, x1, x2 => (if (9 : Int32) ≤ x2 then some (μ, x1) else (f_X12_stands μ x2).bind fun q1 => ((if q1.2 = 0 then bd (x1 ||| (0 : Int32)) fun y2 => ((f_X12_standSet_L4 n) q1.1 y2 (x2 + (1 : Int32))) else bd (x1 ||| ((1 : Int32) <<< (x2 &&& 31))) fun y3 => ((f_X12_standSet_L4 n) q1.1 y3 (x2 + (1 : Int32))))))
def f_X12_standSet (μ : Mem) : Option (Mem × Int32) := f_X12_standSet_L4 fuel0 μ (0 : Int32) (0 : Int32)
set_option maxHeartbeats 4000000 in
set_option maxRecDepth 20000 in
theorem c_X12_standSet (E : Ev) (h : Nat → Nat) (g : Nat → Option Nat) {μ : Mem} {r : (Mem × Int32)} (hf : f_X12_standSet μ = some r) : Ct E yX12_standSet cX12_standSet 3 (some .int) (rmOf 2 43) (wM E h g μ) (wM E h g r.1) [.ref (h 0)] (some (.int r.2)) := by
  refine ct_start RX12 2 (by decide) rfl (Nat.le_of_ble_eq_true rfl) ?_
  intro p l e s m args below meth c A Q X hr hlk hQ
  have lab4 : ∀ (n : Nat) (μ : Mem) (x1 : Int32) (x2 : Int32), f_X12_standSet_L4 n μ x1 x2 = some r → J p l e (rmOf 2 43) s m args below meth c E A 3 Q (wM E h g μ) [some (.ref (h 0)), some (.int x1), some (.int x2)] 4 [] := by
    intro n
    induction n with
    | zero => intro μ x1 x2 hf; cases (show none = some r from hf)
    | succ n ih =>
      intro μ x1 x2 hf
      rw [f_X12_standSet_L4] at hf
      refine j_iload_n X dX12_standSet_4 rfl rfl ?_
      refine j_bipush (v := (9 : Int32)) X dX12_standSet_5 (by decide) ?_
      refine j_icmp_ge (tgt := 34) X dX12_standSet_7 (by decide) (fun c_7 => ?_) (fun c_7 => ?_)
      · replace hf := (if_pos c_7).symm.trans hf
        refine j_iload_n X dX12_standSet_34 rfl rfl ?_
        obtain rfl := Option.some.inj hf
        exact j_iret X hr hlk rfl dX12_standSet_35 hQ
      · replace hf := (if_neg c_7).symm.trans hf
        refine j_iload_n X dX12_standSet_10 rfl rfl ?_
        refine j_aload_n X dX12_standSet_11 rfl rfl ?_
        refine j_iload_n X dX12_standSet_12 rfl rfl ?_
        obtain ⟨q1, g_q1, hf⟩ := ob_t hf
        refine j_callV X [0, 1, 2, 3, 4, 5, 6, 7, 8, 9, 10, 11, 12, 13] 0 (c_X12_stands E h g g_q1) (cut_wM_wM_c ..) rfl rfl (ws' := (wM E h g q1.1)) (cut_wM_wM_w ..) (wM_0 ..) rfl k_1093 k_1095 k_41 k_80 k_1096 (⟨rfl, rfl⟩) hdV_X12_stands ⟨Nat.le_of_ble_eq_true rfl, Nat.le_of_ble_eq_true rfl⟩ rfl (Nat.le_of_ble_eq_true rfl) rfl dX12_standSet_13 ?_
        refine j_if_eq (tgt := 25) X dX12_standSet_16 (by decide) (fun c_16 => ?_) (fun c_16 => ?_)
        · replace hf := (if_pos c_16).symm.trans hf
          refine j_iconst (v := (0 : Int32)) X dX12_standSet_25 (by decide) ?_
          refine j_ior X dX12_standSet_26 ?_
          obtain ⟨y2, e_y2, hf⟩ := bd_e hf
          refine j_top e_y2 ?_
          refine j_istore_n1 X dX12_standSet_27 rfl (by decide) rfl ?_
          refine j_iinc2 (k := (1 : Int32)) X dX12_standSet_28 (by decide) (by decide) rfl ?_
          refine j_goto (tgt := 4) X dX12_standSet_31 (by decide) ?_
          refine j_keep [true, true, true] rfl ?_
          exact ih _ _ _ hf
        · replace hf := (if_neg c_16).symm.trans hf
          refine j_iconst (v := (1 : Int32)) X dX12_standSet_19 (by decide) ?_
          refine j_iload_n X dX12_standSet_20 rfl rfl ?_
          refine j_ishl X dX12_standSet_21 ?_
          refine j_goto (tgt := 26) X dX12_standSet_22 (by decide) ?_
          refine j_ior X dX12_standSet_26 ?_
          obtain ⟨y3, e_y3, hf⟩ := bd_e hf
          refine j_top e_y3 ?_
          refine j_istore_n1 X dX12_standSet_27 rfl (by decide) rfl ?_
          refine j_iinc2 (k := (1 : Int32)) X dX12_standSet_28 (by decide) (by decide) rfl ?_
          refine j_goto (tgt := 4) X dX12_standSet_31 (by decide) ?_
          refine j_keep [true, true, true] rfl ?_
          exact ih _ _ _ hf
  rw [f_X12_standSet] at hf
  refine j_iconst (v := (0 : Int32)) X dX12_standSet_0 (by decide) ?_
  refine j_istore_n1 X dX12_standSet_1 rfl (by decide) rfl ?_
  refine j_iconst (v := (0 : Int32)) X dX12_standSet_2 (by decide) ?_
  refine j_istore_n2 X dX12_standSet_3 rfl (by decide) rfl ?_
  refine j_keep [true, true, true] rfl ?_
  exact lab4 _ _ _ _ hf
def f_X12_empties_L144 (K30 : Mem → Int32 → Int32 → Int32 → Int32 → Option (Mem × Int32)) (μ : Mem) (x1 : Int32) (x2 : Int32) (x3 : Int32) (x4 : Int32) : Option (Mem × Int32) := (f_X12_layBack μ (0 : Int32)).bind fun q7 => (K30 q7 x1 x2 x3 (x4 + (1 : Int32)))
def f_X12_empties_L139 (K30 : Mem → Int32 → Int32 → Int32 → Int32 → Option (Mem × Int32)) (μ : Mem) (x1 : Int32) (x2 : Int32) (x4 : Int32) : Option (Mem × Int32) := (f_X12_layBack μ (0 : Int32)).bind fun q10 => (K30 q10 x1 x2 x4 (x4 + (1 : Int32)))
def f_X12_empties_L114 (K30 : Mem → Int32 → Int32 → Int32 → Int32 → Option (Mem × Int32)) (μ : Mem) (x1 : Int32) (x2 : Int32) (x3 : Int32) (x4 : Int32) : Option (Mem × Int32) := (f_X12_howMany μ).bind fun q6 => ((if q6.2 = 0 then (f_X12_bitsOf x4).bind fun q8 => ((f_X12_bitsOf x3).bind fun q9 => ((if q8 = q9 then (if x3 ≤ x4 then f_X12_empties_L144 K30 q6.1 x1 x2 x3 x4 else f_X12_empties_L139 K30 q6.1 x1 x2 x4) else f_X12_empties_L144 K30 q6.1 x1 x2 x3 x4))) else f_X12_empties_L144 K30 q6.1 x1 x2 x3 x4))
def f_X12_empties_L50 (K30 : Mem → Int32 → Int32 → Int32 → Int32 → Option (Mem × Int32)) : Nat → Mem → Int32 → Int32 → Int32 → Int32 → Int32 → Option (Mem × Int32)
  | 0, _, _, _, _, _, _ => none
  | n + 1, μ, x1, x2, x3, x4, x5 => (if (9 : Int32) ≤ x5 then (f_X12_howMany μ).bind fun q5 => ((if q5.2 = 0 then (f_X12_bitsOf x4).bind fun q11 => ((f_X12_bitsOf x3).bind fun q12 => ((if q11 < q12 then f_X12_empties_L139 K30 q5.1 x1 x2 x4 else f_X12_empties_L114 K30 q5.1 x1 x2 x3 x4))) else f_X12_empties_L114 K30 q5.1 x1 x2 x3 x4)) else (if ((x4 >>> (x5 &&& 31)) &&& (1 : Int32)) = (1 : Int32) then (f_X12_stands μ x5).bind fun q13 => ((if q13.2 = 0 then (f_X12_empties_L50 K30 n) q13.1 x1 x2 x3 x4 (x5 + (1 : Int32)) else (f_X12_pokes q13.1 x5).bind fun q14 => ((f_X12_empties_L50 K30 n) q14.1 x1 x2 x3 x4 (x5 + (1 : Int32))))) else (f_X12_empties_L50 K30 n) μ x1 x2 x3 x4 (x5 + (1 : Int32))))
def f_X12_empties_L30 : Nat → Mem → Int32 → Int32 → Int32 → Int32 → Option (Mem × Int32)
  | 0, _, _, _, _, _ => none
  | n + 1, μ, x1, x2, x3, x4 => (if (511 : Int32) < x4 then (if x1 = 0 then (f_X12_bitsOf x3).bind fun q4 => (some (μ, q4)) else some (μ, x3)) else (if (x4 &&& (x2 ^^^ (-1 : Int32))) = 0 then f_X12_empties_L50 (f_X12_empties_L30 n) fuel0 μ x1 x2 x3 x4 (0 : Int32) else (f_X12_empties_L30 n) μ x1 x2 x3 (x4 + (1 : Int32))))
def f_X12_empties (μ : Mem) (x1 : Int32) : Option (Mem × Int32) := (f_X12_in x1 (0 : Int32) (1 : Int32)).bind fun q1 => ((if q1 = 0 then (f_X12_error μ (1 : Int32)).bind fun q15 => (some (q15.1, q15.2)) else (f_X12_standSet μ).bind fun q2 => ((f_X12_layDown q2.1 (0 : Int32)).bind fun q3 => (f_X12_empties_L30 fuel0 q3 x1 q2.2 q2.2 (0 : Int32)))))
set_option maxHeartbeats 4000000 in
set_option maxRecDepth 20000 in
theorem c_X12_empties (E : Ev) (h : Nat → Nat) (g : Nat → Option Nat) {μ : Mem} {x1 : Int32} {r : (Mem × Int32)} (hf : f_X12_empties μ x1 = some r) : Ct E yX12_empties cX12_empties 7 (some .int) (rmOf 6 137) (wM E h g μ) (wM E h g r.1) [.ref (h 0), .int x1] (some (.int r.2)) := by
  refine ct_start RX12 5 (by decide) rfl (Nat.le_of_ble_eq_true rfl) ?_
  intro p l e s m args below meth c A Q X hr hlk hQ
  have lab144 : ∀ (K30 : Mem → Int32 → Int32 → Int32 → Int32 → Option (Mem × Int32)) (hK30 : ∀ (μ : Mem) (x1 : Int32) (x2 : Int32) (x3 : Int32) (x4 : Int32), K30 μ x1 x2 x3 x4 = some r → J p l e (rmOf 6 137) s m args below meth c E A 7 Q (wM E h g μ) [some (.ref (h 0)), some (.int x1), some (.int x2), some (.int x3), some (.int x4), none, none] 30 []) (μ : Mem) (x1 : Int32) (x2 : Int32) (x3 : Int32) (x4 : Int32), f_X12_empties_L144 K30 μ x1 x2 x3 x4 = some r → J p l e (rmOf 6 137) s m args below meth c E A 7 Q (wM E h g μ) [some (.ref (h 0)), some (.int x1), some (.int x2), some (.int x3), some (.int x4), none, none] 144 [] := by
    intro K30 hK30 μ x1 x2 x3 x4 hf
    rw [f_X12_empties_L144] at hf
    refine j_iload_n X dX12_empties_144 rfl rfl ?_
    refine j_istore_n3 X dX12_empties_145 rfl (by decide) rfl ?_
    refine j_aload_n X dX12_empties_146 rfl rfl ?_
    refine j_iconst (v := (0 : Int32)) X dX12_empties_147 (by decide) ?_
    obtain ⟨q7, g_q7, hf⟩ := ob_t hf
    refine j_callV X [0, 1, 2, 3, 4, 5, 6, 7, 8, 9, 10, 11, 12, 13] 0 (c_X12_layBack E h g g_q7) (cut_wM_wM_c ..) rfl rfl (ws' := (wM E h g q7)) (cut_wM_wM_w ..) (wM_0 ..) rfl k_1190 k_1192 k_55 k_80 k_1193 (⟨rfl, rfl⟩) hdV_X12_layBack ⟨Nat.le_of_ble_eq_true rfl, Nat.le_of_ble_eq_true rfl⟩ rfl (Nat.le_of_ble_eq_true rfl) rfl dX12_empties_148 ?_
    refine j_iinc4 (k := (1 : Int32)) X dX12_empties_151 (by decide) (by decide) rfl ?_
    refine j_goto (tgt := 30) X dX12_empties_154 (by decide) ?_
    refine j_keep [true, true, true, true, true, false, false] rfl ?_
    exact hK30 _ _ _ _ _ hf
  have lab139 : ∀ (K30 : Mem → Int32 → Int32 → Int32 → Int32 → Option (Mem × Int32)) (hK30 : ∀ (μ : Mem) (x1 : Int32) (x2 : Int32) (x3 : Int32) (x4 : Int32), K30 μ x1 x2 x3 x4 = some r → J p l e (rmOf 6 137) s m args below meth c E A 7 Q (wM E h g μ) [some (.ref (h 0)), some (.int x1), some (.int x2), some (.int x3), some (.int x4), none, none] 30 []) (μ : Mem) (x1 : Int32) (x2 : Int32) (x4 : Int32), f_X12_empties_L139 K30 μ x1 x2 x4 = some r → J p l e (rmOf 6 137) s m args below meth c E A 7 Q (wM E h g μ) [some (.ref (h 0)), some (.int x1), some (.int x2), none, some (.int x4), none, none] 139 [] := by
    intro K30 hK30 μ x1 x2 x4 hf
    rw [f_X12_empties_L139] at hf
    refine j_iload X dX12_empties_139 rfl ?_
    refine j_goto (tgt := 145) X dX12_empties_141 (by decide) ?_
    refine j_istore_n3 X dX12_empties_145 rfl (by decide) rfl ?_
    refine j_aload_n X dX12_empties_146 rfl rfl ?_
    refine j_iconst (v := (0 : Int32)) X dX12_empties_147 (by decide) ?_
    obtain ⟨q10, g_q10, hf⟩ := ob_t hf
    refine j_callV X [0, 1, 2, 3, 4, 5, 6, 7, 8, 9, 10, 11, 12, 13] 0 (c_X12_layBack E h g g_q10) (cut_wM_wM_c ..) rfl rfl (ws' := (wM E h g q10)) (cut_wM_wM_w ..) (wM_0 ..) rfl k_1190 k_1192 k_55 k_80 k_1193 (⟨rfl, rfl⟩) hdV_X12_layBack ⟨Nat.le_of_ble_eq_true rfl, Nat.le_of_ble_eq_true rfl⟩ rfl (Nat.le_of_ble_eq_true rfl) rfl dX12_empties_148 ?_
    refine j_iinc4 (k := (1 : Int32)) X dX12_empties_151 (by decide) (by decide) rfl ?_
    refine j_goto (tgt := 30) X dX12_empties_154 (by decide) ?_
    refine j_keep [true, true, true, true, true, false, false] rfl ?_
    exact hK30 _ _ _ _ _ hf
  have lab114 : ∀ (K30 : Mem → Int32 → Int32 → Int32 → Int32 → Option (Mem × Int32)) (hK30 : ∀ (μ : Mem) (x1 : Int32) (x2 : Int32) (x3 : Int32) (x4 : Int32), K30 μ x1 x2 x3 x4 = some r → J p l e (rmOf 6 137) s m args below meth c E A 7 Q (wM E h g μ) [some (.ref (h 0)), some (.int x1), some (.int x2), some (.int x3), some (.int x4), none, none] 30 []) (μ : Mem) (x1 : Int32) (x2 : Int32) (x3 : Int32) (x4 : Int32), f_X12_empties_L114 K30 μ x1 x2 x3 x4 = some r → J p l e (rmOf 6 137) s m args below meth c E A 7 Q (wM E h g μ) [some (.ref (h 0)), some (.int x1), some (.int x2), some (.int x3), some (.int x4), none, none] 114 [] := by
    intro K30 hK30 μ x1 x2 x3 x4 hf
    rw [f_X12_empties_L114] at hf
    refine j_aload_n X dX12_empties_114 rfl rfl ?_
    obtain ⟨q6, g_q6, hf⟩ := ob_t hf
    refine j_callV X [0, 1, 2, 3, 4, 5, 6, 7, 8, 9, 10, 11, 12, 13] 0 (c_X12_howMany E h g g_q6) (cut_wM_wM_c ..) rfl rfl (ws' := (wM E h g q6.1)) (cut_wM_wM_w ..) (wM_0 ..) rfl k_1198 k_1200 k_56 k_80 k_1201 (⟨rfl, rfl⟩) hdV_X12_howMany ⟨Nat.le_of_ble_eq_true rfl, Nat.le_of_ble_eq_true rfl⟩ rfl (Nat.le_of_ble_eq_true rfl) rfl dX12_empties_115 ?_
    refine j_if_ne (tgt := 144) X dX12_empties_118 (by decide) (fun c_118 => ?_) (fun c_118 => ?_)
    · replace hf := (if_neg c_118).symm.trans hf
      refine j_keep [true, true, true, true, true, false, false] rfl ?_
      exact lab144 _ hK30 _ _ _ _ _ hf
    · replace hf := (if_pos c_118).symm.trans hf
      refine j_iload X dX12_empties_121 rfl ?_
      obtain ⟨q8, g_q8, hf⟩ := ob_t hf
      refine j_callS X [] (c_X12_bitsOf E g_q8) rfl rfl rfl (ws' := (wM E h g q6.1)) rfl k_1230 k_1231 k_80 k_1232 (⟨rfl, rfl⟩) hdS_X12_bitsOf ⟨Nat.le_of_ble_eq_true rfl, Nat.le_of_ble_eq_true rfl⟩ rfl (Nat.le_of_ble_eq_true rfl) rfl dX12_empties_123 ?_
      refine j_iload_n X dX12_empties_126 rfl rfl ?_
      obtain ⟨q9, g_q9, hf⟩ := ob_t hf
      refine j_callS X [] (c_X12_bitsOf E g_q9) rfl rfl rfl (ws' := (wM E h g q6.1)) rfl k_1230 k_1231 k_80 k_1232 (⟨rfl, rfl⟩) hdS_X12_bitsOf ⟨Nat.le_of_ble_eq_true rfl, Nat.le_of_ble_eq_true rfl⟩ rfl (Nat.le_of_ble_eq_true rfl) rfl dX12_empties_127 ?_
      refine j_icmp_ne (tgt := 144) X dX12_empties_130 (by decide) (fun c_130 => ?_) (fun c_130 => ?_)
      · replace hf := (if_neg c_130).symm.trans hf
        refine j_keep [true, true, true, true, true, false, false] rfl ?_
        exact lab144 _ hK30 _ _ _ _ _ hf
      · replace hf := (if_pos c_130).symm.trans hf
        refine j_iload X dX12_empties_133 rfl ?_
        refine j_iload_n X dX12_empties_135 rfl rfl ?_
        refine j_icmp_ge (tgt := 144) X dX12_empties_136 (by decide) (fun c_136 => ?_) (fun c_136 => ?_)
        · replace hf := (if_pos c_136).symm.trans hf
          refine j_keep [true, true, true, true, true, false, false] rfl ?_
          exact lab144 _ hK30 _ _ _ _ _ hf
        · replace hf := (if_neg c_136).symm.trans hf
          refine j_keep [true, true, true, false, true, false, false] rfl ?_
          exact lab139 _ hK30 _ _ _ _ hf
  have lab50 : ∀ (K30 : Mem → Int32 → Int32 → Int32 → Int32 → Option (Mem × Int32)) (hK30 : ∀ (μ : Mem) (x1 : Int32) (x2 : Int32) (x3 : Int32) (x4 : Int32), K30 μ x1 x2 x3 x4 = some r → J p l e (rmOf 6 137) s m args below meth c E A 7 Q (wM E h g μ) [some (.ref (h 0)), some (.int x1), some (.int x2), some (.int x3), some (.int x4), none, none] 30 []) (n : Nat) (μ : Mem) (x1 : Int32) (x2 : Int32) (x3 : Int32) (x4 : Int32) (x5 : Int32), f_X12_empties_L50 K30 n μ x1 x2 x3 x4 x5 = some r → J p l e (rmOf 6 137) s m args below meth c E A 7 Q (wM E h g μ) [some (.ref (h 0)), some (.int x1), some (.int x2), some (.int x3), some (.int x4), some (.int x5), none] 50 [] := by
    intro K30 hK30 n
    induction n with
    | zero => intro μ x1 x2 x3 x4 x5 hf; cases (show none = some r from hf)
    | succ n ih =>
      intro μ x1 x2 x3 x4 x5 hf
      rw [f_X12_empties_L50] at hf
      refine j_iload X dX12_empties_50 rfl ?_
      refine j_bipush (v := (9 : Int32)) X dX12_empties_52 (by decide) ?_
      refine j_icmp_ge (tgt := 95) X dX12_empties_54 (by decide) (fun c_54 => ?_) (fun c_54 => ?_)
      · replace hf := (if_pos c_54).symm.trans hf
        refine j_aload_n X dX12_empties_95 rfl rfl ?_
        obtain ⟨q5, g_q5, hf⟩ := ob_t hf
        refine j_callV X [0, 1, 2, 3, 4, 5, 6, 7, 8, 9, 10, 11, 12, 13] 0 (c_X12_howMany E h g g_q5) (cut_wM_wM_c ..) rfl rfl (ws' := (wM E h g q5.1)) (cut_wM_wM_w ..) (wM_0 ..) rfl k_1198 k_1200 k_56 k_80 k_1201 (⟨rfl, rfl⟩) hdV_X12_howMany ⟨Nat.le_of_ble_eq_true rfl, Nat.le_of_ble_eq_true rfl⟩ rfl (Nat.le_of_ble_eq_true rfl) rfl dX12_empties_96 ?_
        refine j_if_ne (tgt := 114) X dX12_empties_99 (by decide) (fun c_99 => ?_) (fun c_99 => ?_)
        · replace hf := (if_neg c_99).symm.trans hf
          refine j_keep [true, true, true, true, true, false, false] rfl ?_
          exact lab114 _ hK30 _ _ _ _ _ hf
        · replace hf := (if_pos c_99).symm.trans hf
          refine j_iload X dX12_empties_102 rfl ?_
          obtain ⟨q11, g_q11, hf⟩ := ob_t hf
          refine j_callS X [] (c_X12_bitsOf E g_q11) rfl rfl rfl (ws' := (wM E h g q5.1)) rfl k_1230 k_1231 k_80 k_1232 (⟨rfl, rfl⟩) hdS_X12_bitsOf ⟨Nat.le_of_ble_eq_true rfl, Nat.le_of_ble_eq_true rfl⟩ rfl (Nat.le_of_ble_eq_true rfl) rfl dX12_empties_104 ?_
          refine j_iload_n X dX12_empties_107 rfl rfl ?_
          obtain ⟨q12, g_q12, hf⟩ := ob_t hf
          refine j_callS X [] (c_X12_bitsOf E g_q12) rfl rfl rfl (ws' := (wM E h g q5.1)) rfl k_1230 k_1231 k_80 k_1232 (⟨rfl, rfl⟩) hdS_X12_bitsOf ⟨Nat.le_of_ble_eq_true rfl, Nat.le_of_ble_eq_true rfl⟩ rfl (Nat.le_of_ble_eq_true rfl) rfl dX12_empties_108 ?_
          refine j_icmp_lt (tgt := 139) X dX12_empties_111 (by decide) (fun c_111 => ?_) (fun c_111 => ?_)
          · replace hf := (if_pos c_111).symm.trans hf
            refine j_keep [true, true, true, false, true, false, false] rfl ?_
            exact lab139 _ hK30 _ _ _ _ hf
          · replace hf := (if_neg c_111).symm.trans hf
            refine j_keep [true, true, true, true, true, false, false] rfl ?_
            exact lab114 _ hK30 _ _ _ _ _ hf
      · replace hf := (if_neg c_54).symm.trans hf
        refine j_iload X dX12_empties_57 rfl ?_
        refine j_iload X dX12_empties_59 rfl ?_
        refine j_ishr X dX12_empties_61 ?_
        refine j_iconst (v := (1 : Int32)) X dX12_empties_62 (by decide) ?_
        refine j_iand X dX12_empties_63 ?_
        refine j_iconst (v := (1 : Int32)) X dX12_empties_64 (by decide) ?_
        refine j_icmp_ne (tgt := 86) X dX12_empties_65 (by decide) (fun c_65 => ?_) (fun c_65 => ?_)
        · replace hf := (if_neg c_65).symm.trans hf
          refine j_iconst (v := (0 : Int32)) X dX12_empties_86 (by decide) ?_
          refine j_istore6 X dX12_empties_87 (by decide) rfl ?_
          refine j_iinc5 (k := (1 : Int32)) X dX12_empties_89 (by decide) (by decide) rfl ?_
          refine j_goto (tgt := 50) X dX12_empties_92 (by decide) ?_
          refine j_keep [true, true, true, true, true, true, false] rfl ?_
          exact ih _ _ _ _ _ _ hf
        · replace hf := (if_pos c_65).symm.trans hf
          refine j_aload_n X dX12_empties_68 rfl rfl ?_
          refine j_iload X dX12_empties_69 rfl ?_
          obtain ⟨q13, g_q13, hf⟩ := ob_t hf
          refine j_callV X [0, 1, 2, 3, 4, 5, 6, 7, 8, 9, 10, 11, 12, 13] 0 (c_X12_stands E h g g_q13) (cut_wM_wM_c ..) rfl rfl (ws' := (wM E h g q13.1)) (cut_wM_wM_w ..) (wM_0 ..) rfl k_1093 k_1095 k_41 k_80 k_1096 (⟨rfl, rfl⟩) hdV_X12_stands ⟨Nat.le_of_ble_eq_true rfl, Nat.le_of_ble_eq_true rfl⟩ rfl (Nat.le_of_ble_eq_true rfl) rfl dX12_empties_71 ?_
          refine j_if_eq (tgt := 86) X dX12_empties_74 (by decide) (fun c_74 => ?_) (fun c_74 => ?_)
          · replace hf := (if_pos c_74).symm.trans hf
            refine j_iconst (v := (0 : Int32)) X dX12_empties_86 (by decide) ?_
            refine j_istore6 X dX12_empties_87 (by decide) rfl ?_
            refine j_iinc5 (k := (1 : Int32)) X dX12_empties_89 (by decide) (by decide) rfl ?_
            refine j_goto (tgt := 50) X dX12_empties_92 (by decide) ?_
            refine j_keep [true, true, true, true, true, true, false] rfl ?_
            exact ih _ _ _ _ _ _ hf
          · replace hf := (if_neg c_74).symm.trans hf
            refine j_aload_n X dX12_empties_77 rfl rfl ?_
            refine j_iload X dX12_empties_78 rfl ?_
            obtain ⟨q14, g_q14, hf⟩ := ob_t hf
            refine j_callV X [0, 1, 2, 3, 4, 5, 6, 7, 8, 9, 10, 11, 12, 13] 0 (c_X12_pokes E h g g_q14) (cut_wM_wM_c ..) rfl rfl (ws' := (wM E h g q14.1)) (cut_wM_wM_w ..) (wM_0 ..) rfl k_1165 k_1167 k_52 k_80 k_1168 (⟨rfl, rfl⟩) hdV_X12_pokes ⟨Nat.le_of_ble_eq_true rfl, Nat.le_of_ble_eq_true rfl⟩ rfl (Nat.le_of_ble_eq_true rfl) rfl dX12_empties_80 ?_
            refine j_goto (tgt := 87) X dX12_empties_83 (by decide) ?_
            refine j_istore6 X dX12_empties_87 (by decide) rfl ?_
            refine j_iinc5 (k := (1 : Int32)) X dX12_empties_89 (by decide) (by decide) rfl ?_
            refine j_goto (tgt := 50) X dX12_empties_92 (by decide) ?_
            refine j_keep [true, true, true, true, true, true, false] rfl ?_
            exact ih _ _ _ _ _ _ hf
  have lab30 : ∀ (n : Nat) (μ : Mem) (x1 : Int32) (x2 : Int32) (x3 : Int32) (x4 : Int32), f_X12_empties_L30 n μ x1 x2 x3 x4 = some r → J p l e (rmOf 6 137) s m args below meth c E A 7 Q (wM E h g μ) [some (.ref (h 0)), some (.int x1), some (.int x2), some (.int x3), some (.int x4), none, none] 30 [] := by
    intro n
    induction n with
    | zero => intro μ x1 x2 x3 x4 hf; cases (show none = some r from hf)
    | succ n ih =>
      intro μ x1 x2 x3 x4 hf
      rw [f_X12_empties_L30] at hf
      refine j_iload X dX12_empties_30 rfl ?_
      refine j_sipush (v := (511 : Int32)) X dX12_empties_32 (by decide) ?_
      refine j_icmp_gt (tgt := 157) X dX12_empties_35 (by decide) (fun c_35 => ?_) (fun c_35 => ?_)
      · replace hf := (if_pos c_35).symm.trans hf
        refine j_iload_n X dX12_empties_157 rfl rfl ?_
        refine j_if_ne (tgt := 168) X dX12_empties_158 (by decide) (fun c_158 => ?_) (fun c_158 => ?_)
        · replace hf := (if_neg c_158).symm.trans hf
          refine j_iload_n X dX12_empties_168 rfl rfl ?_
          obtain rfl := Option.some.inj hf
          exact j_iret X hr hlk rfl dX12_empties_169 hQ
        · replace hf := (if_pos c_158).symm.trans hf
          refine j_iload_n X dX12_empties_161 rfl rfl ?_
          obtain ⟨q4, g_q4, hf⟩ := ob_t hf
          refine j_callS X [] (c_X12_bitsOf E g_q4) rfl rfl rfl (ws' := (wM E h g μ)) rfl k_1230 k_1231 k_80 k_1232 (⟨rfl, rfl⟩) hdS_X12_bitsOf ⟨Nat.le_of_ble_eq_true rfl, Nat.le_of_ble_eq_true rfl⟩ rfl (Nat.le_of_ble_eq_true rfl) rfl dX12_empties_162 ?_
          refine j_goto (tgt := 169) X dX12_empties_165 (by decide) ?_
          obtain rfl := Option.some.inj hf
          exact j_iret X hr hlk rfl dX12_empties_169 hQ
      · replace hf := (if_neg c_35).symm.trans hf
        refine j_iload X dX12_empties_38 rfl ?_
        refine j_iload_n X dX12_empties_40 rfl rfl ?_
        refine j_iconst (v := (-1 : Int32)) X dX12_empties_41 (by decide) ?_
        refine j_ixor X dX12_empties_42 ?_
        refine j_iand X dX12_empties_43 ?_
        refine j_if_ne (tgt := 151) X dX12_empties_44 (by decide) (fun c_44 => ?_) (fun c_44 => ?_)
        · replace hf := (if_neg c_44).symm.trans hf
          refine j_iinc4 (k := (1 : Int32)) X dX12_empties_151 (by decide) (by decide) rfl ?_
          refine j_goto (tgt := 30) X dX12_empties_154 (by decide) ?_
          refine j_keep [true, true, true, true, true, false, false] rfl ?_
          exact ih _ _ _ _ _ hf
        · replace hf := (if_pos c_44).symm.trans hf
          refine j_iconst (v := (0 : Int32)) X dX12_empties_47 (by decide) ?_
          refine j_istore5 X dX12_empties_48 (by decide) rfl ?_
          refine j_keep [true, true, true, true, true, true, false] rfl ?_
          exact lab50 _ ih _ _ _ _ _ _ _ hf
  rw [f_X12_empties] at hf
  refine j_iload_n X dX12_empties_0 rfl rfl ?_
  refine j_iconst (v := (0 : Int32)) X dX12_empties_1 (by decide) ?_
  refine j_iconst (v := (1 : Int32)) X dX12_empties_2 (by decide) ?_
  obtain ⟨q1, g_q1, hf⟩ := ob_t hf
  refine j_callS X [] (c_X12_in E g_q1) rfl rfl rfl (ws' := (wM E h g μ)) rfl k_984 k_985 k_80 k_986 (⟨rfl, rfl⟩) hdS_X12_in ⟨Nat.le_of_ble_eq_true rfl, Nat.le_of_ble_eq_true rfl⟩ rfl (Nat.le_of_ble_eq_true rfl) rfl dX12_empties_3 ?_
  refine j_if_ne (tgt := 15) X dX12_empties_6 (by decide) (fun c_6 => ?_) (fun c_6 => ?_)
  · replace hf := (if_neg c_6).symm.trans hf
    refine j_aload_n X dX12_empties_15 rfl rfl ?_
    obtain ⟨q2, g_q2, hf⟩ := ob_t hf
    refine j_callV X [0, 1, 2, 3, 4, 5, 6, 7, 8, 9, 10, 11, 12, 13] 0 (c_X12_standSet E h g g_q2) (cut_wM_wM_c ..) rfl rfl (ws' := (wM E h g q2.1)) (cut_wM_wM_w ..) (wM_0 ..) rfl k_1226 k_1228 k_58 k_80 k_1229 (⟨rfl, rfl⟩) hdV_X12_standSet ⟨Nat.le_of_ble_eq_true rfl, Nat.le_of_ble_eq_true rfl⟩ rfl (Nat.le_of_ble_eq_true rfl) rfl dX12_empties_16 ?_
    refine j_istore_n2 X dX12_empties_19 rfl (by decide) rfl ?_
    refine j_iload_n X dX12_empties_20 rfl rfl ?_
    refine j_istore_n3 X dX12_empties_21 rfl (by decide) rfl ?_
    refine j_aload_n X dX12_empties_22 rfl rfl ?_
    refine j_iconst (v := (0 : Int32)) X dX12_empties_23 (by decide) ?_
    obtain ⟨q3, g_q3, hf⟩ := ob_t hf
    refine j_callV X [0, 1, 2, 3, 4, 5, 6, 7, 8, 9, 10, 11, 12, 13] 0 (c_X12_layDown E h g g_q3) (cut_wM_wM_c ..) rfl rfl (ws' := (wM E h g q3)) (cut_wM_wM_w ..) (wM_0 ..) rfl k_1186 k_1188 k_54 k_80 k_1189 (⟨rfl, rfl⟩) hdV_X12_layDown ⟨Nat.le_of_ble_eq_true rfl, Nat.le_of_ble_eq_true rfl⟩ rfl (Nat.le_of_ble_eq_true rfl) rfl dX12_empties_24 ?_
    refine j_iconst (v := (0 : Int32)) X dX12_empties_27 (by decide) ?_
    refine j_istore4 X dX12_empties_28 (by decide) rfl ?_
    refine j_keep [true, true, true, true, true, false, false] rfl ?_
    exact lab30 _ _ _ _ _ _ hf
  · replace hf := (if_pos c_6).symm.trans hf
    refine j_aload_n X dX12_empties_9 rfl rfl ?_
    refine j_iconst (v := (1 : Int32)) X dX12_empties_10 (by decide) ?_
    obtain ⟨q15, g_q15, hf⟩ := ob_t hf
    refine j_callV X [0, 1, 2, 3, 4, 5, 6, 7, 8, 9, 10, 11, 12, 13] 0 (c_X12_error E h g g_q15) (cut_wM_wM_c ..) rfl rfl (ws' := (wM E h g q15.1)) (cut_wM_wM_w ..) (wM_0 ..) rfl k_987 k_989 k_24 k_80 k_990 (⟨rfl, rfl⟩) hdV_X12_error ⟨Nat.le_of_ble_eq_true rfl, Nat.le_of_ble_eq_true rfl⟩ rfl (Nat.le_of_ble_eq_true rfl) rfl dX12_empties_11 ?_
    obtain rfl := Option.some.inj hf
    exact j_iret X hr hlk rfl dX12_empties_14 hQ
def f_X12_whose_L78 (K32 : Mem → Int32 → Int32 → Int32 → Int32 → Option (Mem × Int32)) (μ : Mem) (x1 : Int32) (x2 : Int32) (x4 : Int32) (t0 : Int32) (t1 : Int32) : Option (Mem × Int32) := bd (t1 ||| t0) fun y6 => ((f_X12_layBack μ (0 : Int32)).bind fun q7 => (K32 q7 x1 x2 y6 (x4 + (1 : Int32))))
def f_X12_whose_L32 : Nat → Mem → Int32 → Int32 → Int32 → Int32 → Option (Mem × Int32)
  | 0, _, _, _, _, _ => none
  | n + 1, μ, x1, x2, x3, x4 => (if (9 : Int32) ≤ x4 then some (μ, x3) else (if ((x2 >>> (x4 &&& 31)) &&& (1 : Int32)) = (1 : Int32) then (f_X12_pokes μ x4).bind fun q4 => ((f_X12_standSet q4.1).bind fun q5 => ((if (x2 &&& (q5.2 ^^^ (-1 : Int32))) = x1 then f_X12_whose_L78 (f_X12_whose_L32 n) q5.1 x1 x2 x4 ((1 : Int32) <<< (x4 &&& 31)) x3 else f_X12_whose_L78 (f_X12_whose_L32 n) q5.1 x1 x2 x4 (0 : Int32) x3))) else (f_X12_whose_L32 n) μ x1 x2 x3 (x4 + (1 : Int32))))
def f_X12_whose (μ : Mem) (x1 : Int32) : Option (Mem × Int32) := (f_X12_in x1 (0 : Int32) (511 : Int32)).bind fun q1 => ((if q1 = 0 then (f_X12_error μ (1 : Int32)).bind fun q8 => (some (q8.1, q8.2)) else (f_X12_standSet μ).bind fun q2 => ((f_X12_layDown q2.1 (0 : Int32)).bind fun q3 => (f_X12_whose_L32 fuel0 q3 x1 q2.2 (0 : Int32) (0 : Int32)))))
set_option maxHeartbeats 4000000 in
set_option maxRecDepth 20000 in
theorem c_X12_whose (E : Ev) (h : Nat → Nat) (g : Nat → Option Nat) {μ : Mem} {x1 : Int32} {r : (Mem × Int32)} (hf : f_X12_whose μ x1 = some r) : Ct E yX12_whose cX12_whose 6 (some .int) (rmOf 6 137) (wM E h g μ) (wM E h g r.1) [.ref (h 0), .int x1] (some (.int r.2)) := by
  refine ct_start RX12 4 (by decide) rfl (Nat.le_of_ble_eq_true rfl) ?_
  intro p l e s m args below meth c A Q X hr hlk hQ
  have lab78 : ∀ (K32 : Mem → Int32 → Int32 → Int32 → Int32 → Option (Mem × Int32)) (hK32 : ∀ (μ : Mem) (x1 : Int32) (x2 : Int32) (x3 : Int32) (x4 : Int32), K32 μ x1 x2 x3 x4 = some r → J p l e (rmOf 6 137) s m args below meth c E A 6 Q (wM E h g μ) [some (.ref (h 0)), some (.int x1), some (.int x2), some (.int x3), some (.int x4), none] 32 []) (μ : Mem) (x1 : Int32) (x2 : Int32) (x4 : Int32) (t0 : Int32) (t1 : Int32), f_X12_whose_L78 K32 μ x1 x2 x4 t0 t1 = some r → J p l e (rmOf 6 137) s m args below meth c E A 6 Q (wM E h g μ) [some (.ref (h 0)), some (.int x1), some (.int x2), none, some (.int x4), none] 78 [.int t0, .int t1] := by
    intro K32 hK32 μ x1 x2 x4 t0 t1 hf
    rw [f_X12_whose_L78] at hf
    refine j_ior X dX12_whose_78 ?_
    obtain ⟨y6, e_y6, hf⟩ := bd_e hf
    refine j_top e_y6 ?_
    refine j_istore_n3 X dX12_whose_79 rfl (by decide) rfl ?_
    refine j_aload_n X dX12_whose_80 rfl rfl ?_
    refine j_iconst (v := (0 : Int32)) X dX12_whose_81 (by decide) ?_
    obtain ⟨q7, g_q7, hf⟩ := ob_t hf
    refine j_callV X [0, 1, 2, 3, 4, 5, 6, 7, 8, 9, 10, 11, 12, 13] 0 (c_X12_layBack E h g g_q7) (cut_wM_wM_c ..) rfl rfl (ws' := (wM E h g q7)) (cut_wM_wM_w ..) (wM_0 ..) rfl k_1190 k_1192 k_55 k_80 k_1193 (⟨rfl, rfl⟩) hdV_X12_layBack ⟨Nat.le_of_ble_eq_true rfl, Nat.le_of_ble_eq_true rfl⟩ rfl (Nat.le_of_ble_eq_true rfl) rfl dX12_whose_82 ?_
    refine j_iinc4 (k := (1 : Int32)) X dX12_whose_85 (by decide) (by decide) rfl ?_
    refine j_goto (tgt := 32) X dX12_whose_88 (by decide) ?_
    refine j_keep [true, true, true, true, true, false] rfl ?_
    exact hK32 _ _ _ _ _ hf
  have lab32 : ∀ (n : Nat) (μ : Mem) (x1 : Int32) (x2 : Int32) (x3 : Int32) (x4 : Int32), f_X12_whose_L32 n μ x1 x2 x3 x4 = some r → J p l e (rmOf 6 137) s m args below meth c E A 6 Q (wM E h g μ) [some (.ref (h 0)), some (.int x1), some (.int x2), some (.int x3), some (.int x4), none] 32 [] := by
    intro n
    induction n with
    | zero => intro μ x1 x2 x3 x4 hf; cases (show none = some r from hf)
    | succ n ih =>
      intro μ x1 x2 x3 x4 hf
      rw [f_X12_whose_L32] at hf
      refine j_iload X dX12_whose_32 rfl ?_
      refine j_bipush (v := (9 : Int32)) X dX12_whose_34 (by decide) ?_
      refine j_icmp_ge (tgt := 91) X dX12_whose_36 (by decide) (fun c_36 => ?_) (fun c_36 => ?_)
      · replace hf := (if_pos c_36).symm.trans hf
        refine j_iload_n X dX12_whose_91 rfl rfl ?_
        obtain rfl := Option.some.inj hf
        exact j_iret X hr hlk rfl dX12_whose_92 hQ
      · replace hf := (if_neg c_36).symm.trans hf
        refine j_iload_n X dX12_whose_39 rfl rfl ?_
        refine j_iload X dX12_whose_40 rfl ?_
        refine j_ishr X dX12_whose_42 ?_
        refine j_iconst (v := (1 : Int32)) X dX12_whose_43 (by decide) ?_
        refine j_iand X dX12_whose_44 ?_
        refine j_iconst (v := (1 : Int32)) X dX12_whose_45 (by decide) ?_
        refine j_icmp_ne (tgt := 85) X dX12_whose_46 (by decide) (fun c_46 => ?_) (fun c_46 => ?_)
        · replace hf := (if_neg c_46).symm.trans hf
          refine j_iinc4 (k := (1 : Int32)) X dX12_whose_85 (by decide) (by decide) rfl ?_
          refine j_goto (tgt := 32) X dX12_whose_88 (by decide) ?_
          refine j_keep [true, true, true, true, true, false] rfl ?_
          exact ih _ _ _ _ _ hf
        · replace hf := (if_pos c_46).symm.trans hf
          refine j_aload_n X dX12_whose_49 rfl rfl ?_
          refine j_iload X dX12_whose_50 rfl ?_
          obtain ⟨q4, g_q4, hf⟩ := ob_t hf
          refine j_callV X [0, 1, 2, 3, 4, 5, 6, 7, 8, 9, 10, 11, 12, 13] 0 (c_X12_pokes E h g g_q4) (cut_wM_wM_c ..) rfl rfl (ws' := (wM E h g q4.1)) (cut_wM_wM_w ..) (wM_0 ..) rfl k_1165 k_1167 k_52 k_80 k_1168 (⟨rfl, rfl⟩) hdV_X12_pokes ⟨Nat.le_of_ble_eq_true rfl, Nat.le_of_ble_eq_true rfl⟩ rfl (Nat.le_of_ble_eq_true rfl) rfl dX12_whose_52 ?_
          refine j_istore5 X dX12_whose_55 (by decide) rfl ?_
          refine j_iload_n X dX12_whose_57 rfl rfl ?_
          refine j_iload_n X dX12_whose_58 rfl rfl ?_
          refine j_aload_n X dX12_whose_59 rfl rfl ?_
          obtain ⟨q5, g_q5, hf⟩ := ob_t hf
          refine j_callV X [0, 1, 2, 3, 4, 5, 6, 7, 8, 9, 10, 11, 12, 13] 0 (c_X12_standSet E h g g_q5) (cut_wM_wM_c ..) rfl rfl (ws' := (wM E h g q5.1)) (cut_wM_wM_w ..) (wM_0 ..) rfl k_1226 k_1228 k_58 k_80 k_1229 (⟨rfl, rfl⟩) hdV_X12_standSet ⟨Nat.le_of_ble_eq_true rfl, Nat.le_of_ble_eq_true rfl⟩ rfl (Nat.le_of_ble_eq_true rfl) rfl dX12_whose_60 ?_
          refine j_iconst (v := (-1 : Int32)) X dX12_whose_63 (by decide) ?_
          refine j_ixor X dX12_whose_64 ?_
          refine j_iand X dX12_whose_65 ?_
          refine j_iload_n X dX12_whose_66 rfl rfl ?_
          refine j_icmp_ne (tgt := 77) X dX12_whose_67 (by decide) (fun c_67 => ?_) (fun c_67 => ?_)
          · replace hf := (if_neg c_67).symm.trans hf
            refine j_iconst (v := (0 : Int32)) X dX12_whose_77 (by decide) ?_
            refine j_keep [true, true, true, false, true, false] rfl ?_
            exact lab78 _ ih _ _ _ _ _ _ hf
          · replace hf := (if_pos c_67).symm.trans hf
            refine j_iconst (v := (1 : Int32)) X dX12_whose_70 (by decide) ?_
            refine j_iload X dX12_whose_71 rfl ?_
            refine j_ishl X dX12_whose_73 ?_
            refine j_goto (tgt := 78) X dX12_whose_74 (by decide) ?_
            refine j_keep [true, true, true, false, true, false] rfl ?_
            exact lab78 _ ih _ _ _ _ _ _ hf
  rw [f_X12_whose] at hf
  refine j_iload_n X dX12_whose_0 rfl rfl ?_
  refine j_iconst (v := (0 : Int32)) X dX12_whose_1 (by decide) ?_
  refine j_sipush (v := (511 : Int32)) X dX12_whose_2 (by decide) ?_
  obtain ⟨q1, g_q1, hf⟩ := ob_t hf
  refine j_callS X [] (c_X12_in E g_q1) rfl rfl rfl (ws' := (wM E h g μ)) rfl k_984 k_985 k_80 k_986 (⟨rfl, rfl⟩) hdS_X12_in ⟨Nat.le_of_ble_eq_true rfl, Nat.le_of_ble_eq_true rfl⟩ rfl (Nat.le_of_ble_eq_true rfl) rfl dX12_whose_5 ?_
  refine j_if_ne (tgt := 17) X dX12_whose_8 (by decide) (fun c_8 => ?_) (fun c_8 => ?_)
  · replace hf := (if_neg c_8).symm.trans hf
    refine j_aload_n X dX12_whose_17 rfl rfl ?_
    obtain ⟨q2, g_q2, hf⟩ := ob_t hf
    refine j_callV X [0, 1, 2, 3, 4, 5, 6, 7, 8, 9, 10, 11, 12, 13] 0 (c_X12_standSet E h g g_q2) (cut_wM_wM_c ..) rfl rfl (ws' := (wM E h g q2.1)) (cut_wM_wM_w ..) (wM_0 ..) rfl k_1226 k_1228 k_58 k_80 k_1229 (⟨rfl, rfl⟩) hdV_X12_standSet ⟨Nat.le_of_ble_eq_true rfl, Nat.le_of_ble_eq_true rfl⟩ rfl (Nat.le_of_ble_eq_true rfl) rfl dX12_whose_18 ?_
    refine j_istore_n2 X dX12_whose_21 rfl (by decide) rfl ?_
    refine j_iconst (v := (0 : Int32)) X dX12_whose_22 (by decide) ?_
    refine j_istore_n3 X dX12_whose_23 rfl (by decide) rfl ?_
    refine j_aload_n X dX12_whose_24 rfl rfl ?_
    refine j_iconst (v := (0 : Int32)) X dX12_whose_25 (by decide) ?_
    obtain ⟨q3, g_q3, hf⟩ := ob_t hf
    refine j_callV X [0, 1, 2, 3, 4, 5, 6, 7, 8, 9, 10, 11, 12, 13] 0 (c_X12_layDown E h g g_q3) (cut_wM_wM_c ..) rfl rfl (ws' := (wM E h g q3)) (cut_wM_wM_w ..) (wM_0 ..) rfl k_1186 k_1188 k_54 k_80 k_1189 (⟨rfl, rfl⟩) hdV_X12_layDown ⟨Nat.le_of_ble_eq_true rfl, Nat.le_of_ble_eq_true rfl⟩ rfl (Nat.le_of_ble_eq_true rfl) rfl dX12_whose_26 ?_
    refine j_iconst (v := (0 : Int32)) X dX12_whose_29 (by decide) ?_
    refine j_istore4 X dX12_whose_30 (by decide) rfl ?_
    refine j_keep [true, true, true, true, true, false] rfl ?_
    exact lab32 _ _ _ _ _ _ hf
  · replace hf := (if_pos c_8).symm.trans hf
    refine j_aload_n X dX12_whose_11 rfl rfl ?_
    refine j_iconst (v := (1 : Int32)) X dX12_whose_12 (by decide) ?_
    obtain ⟨q8, g_q8, hf⟩ := ob_t hf
    refine j_callV X [0, 1, 2, 3, 4, 5, 6, 7, 8, 9, 10, 11, 12, 13] 0 (c_X12_error E h g g_q8) (cut_wM_wM_c ..) rfl rfl (ws' := (wM E h g q8.1)) (cut_wM_wM_w ..) (wM_0 ..) rfl k_987 k_989 k_24 k_80 k_990 (⟨rfl, rfl⟩) hdV_X12_error ⟨Nat.le_of_ble_eq_true rfl, Nat.le_of_ble_eq_true rfl⟩ rfl (Nat.le_of_ble_eq_true rfl) rfl dX12_whose_13 ?_
    obtain rfl := Option.some.inj hf
    exact j_iret X hr hlk rfl dX12_whose_16 hQ
