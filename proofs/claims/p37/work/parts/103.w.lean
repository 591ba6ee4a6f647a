def f_X12_go_L4 : Nat → Mem → Int32 → Int32 → Int32 → Option (Mem × Int32)
  | 0, _, _, _, _ => none
  | n + 1, μ, x1, x2, x3 => (if x1 ≤ x3 then some (μ, x2) else (f_X12_minute μ).bind fun q1 => (bd (x2 + q1.2) fun y2 => ((f_X12_go_L4 n) q1.1 x1 y2 (x3 + (1 : Int32)))))
def f_X12_go (μ : Mem) (x1 : Int32) : Option (Mem × Int32) := f_X12_go_L4 fuel0 μ x1 (0 : Int32) (0 : Int32)
set_option maxHeartbeats 4000000 in
set_option maxRecDepth 20000 in
theorem c_X12_go (E : Ev) (h : Nat → Nat) (g : Nat → Option Nat) {μ : Mem} {x1 : Int32} {r : (Mem × Int32)} (hf : f_X12_go μ x1 = some r) : Ct E yX12_go cX12_go 4 (some .int) (rmOf 6 137) (wM E h g μ) (wM E h g r.1) [.ref (h 0), .int x1] (some (.int r.2)) := by
  refine ct_start RX12 2 (by decide) rfl (Nat.le_of_ble_eq_true rfl) ?_
  intro p l e s m args below meth c A Q X hr hlk hQ
  have lab4 : ∀ (n : Nat) (μ : Mem) (x1 : Int32) (x2 : Int32) (x3 : Int32), f_X12_go_L4 n μ x1 x2 x3 = some r → J p l e (rmOf 6 137) s m args below meth c E A 4 Q (wM E h g μ) [some (.ref (h 0)), some (.int x1), some (.int x2), some (.int x3)] 4 [] := by
    intro n
    induction n with
    | zero => intro μ x1 x2 x3 hf; cases (show none = some r from hf)
    | succ n ih =>
      intro μ x1 x2 x3 hf
      rw [f_X12_go_L4] at hf
      refine j_iload_n X dX12_go_4 rfl rfl ?_
      refine j_iload_n X dX12_go_5 rfl rfl ?_
      refine j_icmp_ge (tgt := 22) X dX12_go_6 (by decide) (fun c_6 => ?_) (fun c_6 => ?_)
      · replace hf := (if_pos c_6).symm.trans hf
        refine j_iload_n X dX12_go_22 rfl rfl ?_
        obtain rfl := Option.some.inj hf
        exact j_iret X hr hlk rfl dX12_go_23 hQ
      · replace hf := (if_neg c_6).symm.trans hf
        refine j_iload_n X dX12_go_9 rfl rfl ?_
        refine j_aload_n X dX12_go_10 rfl rfl ?_
        obtain ⟨q1, g_q1, hf⟩ := ob_t hf
        refine j_callV X [0, 1, 2, 3, 4, 5, 6, 7, 8, 9, 10, 11, 12, 13] 0 (c_X12_minute E h g g_q1) (cut_wM_wM_c ..) rfl rfl (ws' := (wM E h g q1.1)) (cut_wM_wM_w ..) (wM_0 ..) rfl k_1149 k_1151 k_50 k_80 k_1152 (⟨rfl, rfl⟩) hdV_X12_minute ⟨Nat.le_of_ble_eq_true rfl, Nat.le_of_ble_eq_true rfl⟩ rfl (Nat.le_of_ble_eq_true rfl) rfl dX12_go_11 ?_
        refine j_iadd X dX12_go_14 ?_
        obtain ⟨y2, e_y2, hf⟩ := bd_e hf
        refine j_top e_y2 ?_
        refine j_istore_n2 X dX12_go_15 rfl (by decide) rfl ?_
        refine j_iinc3 (k := (1 : Int32)) X dX12_go_16 (by decide) (by decide) rfl ?_
        refine j_goto (tgt := 4) X dX12_go_19 (by decide) ?_
        refine j_keep [true, true, true, true] rfl ?_
        exact ih _ _ _ _ hf
  rw [f_X12_go] at hf
  refine j_iconst (v := (0 : Int32)) X dX12_go_0 (by decide) ?_
  refine j_istore_n2 X dX12_go_1 rfl (by decide) rfl ?_
  refine j_iconst (v := (0 : Int32)) X dX12_go_2 (by decide) ?_
  refine j_istore_n3 X dX12_go_3 rfl (by decide) rfl ?_
  refine j_keep [true, true, true, true] rfl ?_
  exact lab4 _ _ _ _ _ hf
def f_X12_stander (μ : Mem) (x1 : Int32) (x2 : Int32) : Option (Mem × Int32) := (f_X12_isOne x1).bind fun q1 => ((if q1 = 0 then (f_X12_error μ (1 : Int32)).bind fun q2 => (some (q2.1, q2.2)) else (f_X12_in x2 (0 : Int32) (69 : Int32)).bind fun q3 => ((if q3 = 0 then (f_X12_error μ (1 : Int32)).bind fun q9 => (some (q9.1, q9.2)) else (f_X12_its μ x1 (0 : Int32)).bind fun q4 => ((f_X12_its q4.1 x1 (1 : Int32)).bind fun q5 => (bd (((10 : Int32) * q4.2) + q5.2) fun y6 => ((f_X12_lays1 q5.1 x1 (0 : Int32) (x2 / (10 : Int32))).bind fun q7 => ((f_X12_lays1 q7 x1 (1 : Int32) (x2 - x2 / (10 : Int32) * (10 : Int32))).bind fun q8 => (some (q8, y6))))))))))
set_option maxHeartbeats 4000000 in
set_option maxRecDepth 20000 in
theorem c_X12_stander (E : Ev) (h : Nat → Nat) (g : Nat → Option Nat) {μ : Mem} {x1 : Int32} {x2 : Int32} {r : (Mem × Int32)} (hf : f_X12_stander μ x1 x2 = some r) : Ct E yX12_stander cX12_stander 4 (some .int) (rmOf 2 42) (wM E h g μ) (wM E h g r.1) [.ref (h 0), .int x1, .int x2] (some (.int r.2)) := by
  refine ct_start RX12 1 (by decide) rfl (Nat.le_of_ble_eq_true rfl) ?_
  intro p l e s m args below meth c A Q X hr hlk hQ
  rw [f_X12_stander] at hf
  refine j_iload_n X dX12_stander_0 rfl rfl ?_
  obtain ⟨q1, g_q1, hf⟩ := ob_t hf
  refine j_callS X [] (c_X12_isOne E g_q1) rfl rfl rfl (ws' := (wM E h g μ)) rfl k_1049 k_1050 k_80 k_1051 (⟨rfl, rfl⟩) hdS_X12_isOne ⟨Nat.le_of_ble_eq_true rfl, Nat.le_of_ble_eq_true rfl⟩ rfl (Nat.le_of_ble_eq_true rfl) rfl dX12_stander_1 ?_
  refine j_if_eq (tgt := 17) X dX12_stander_4 (by decide) (fun c_4 => ?_) (fun c_4 => ?_)
  · replace hf := (if_pos c_4).symm.trans hf
    refine j_aload_n X dX12_stander_17 rfl rfl ?_
    refine j_iconst (v := (1 : Int32)) X dX12_stander_18 (by decide) ?_
    obtain ⟨q2, g_q2, hf⟩ := ob_t hf
    refine j_callV X [0, 1, 2, 3, 4, 5, 6, 7, 8, 9, 10, 11, 12, 13] 0 (c_X12_error E h g g_q2) (cut_wM_wM_c ..) rfl rfl (ws' := (wM E h g q2.1)) (cut_wM_wM_w ..) (wM_0 ..) rfl k_987 k_989 k_24 k_80 k_990 (⟨rfl, rfl⟩) hdV_X12_error ⟨Nat.le_of_ble_eq_true rfl, Nat.le_of_ble_eq_true rfl⟩ rfl (Nat.le_of_ble_eq_true rfl) rfl dX12_stander_19 ?_
    obtain rfl := Option.some.inj hf
    exact j_iret X hr hlk rfl dX12_stander_22 hQ
  · replace hf := (if_neg c_4).symm.trans hf
    refine j_iload_n X dX12_stander_7 rfl rfl ?_
    refine j_iconst (v := (0 : Int32)) X dX12_stander_8 (by decide) ?_
    refine j_bipush (v := (69 : Int32)) X dX12_stander_9 (by decide) ?_
    obtain ⟨q3, g_q3, hf⟩ := ob_t hf
    refine j_callS X [] (c_X12_in E g_q3) rfl rfl rfl (ws' := (wM E h g μ)) rfl k_984 k_985 k_80 k_986 (⟨rfl, rfl⟩) hdS_X12_in ⟨Nat.le_of_ble_eq_true rfl, Nat.le_of_ble_eq_true rfl⟩ rfl (Nat.le_of_ble_eq_true rfl) rfl dX12_stander_11 ?_
    refine j_if_ne (tgt := 23) X dX12_stander_14 (by decide) (fun c_14 => ?_) (fun c_14 => ?_)
    · replace hf := (if_neg c_14).symm.trans hf
      refine j_bipush (v := (10 : Int32)) X dX12_stander_23 (by decide) ?_
      refine j_aload_n X dX12_stander_25 rfl rfl ?_
      refine j_iload_n X dX12_stander_26 rfl rfl ?_
      refine j_iconst (v := (0 : Int32)) X dX12_stander_27 (by decide) ?_
      obtain ⟨q4, g_q4, hf⟩ := ob_t hf
      refine j_callV X [0, 1, 2, 3, 4, 5, 6, 7, 8, 9, 10, 11, 12, 13] 0 (c_X12_its E h g g_q4) (cut_wM_wM_c ..) rfl rfl (ws' := (wM E h g q4.1)) (cut_wM_wM_w ..) (wM_0 ..) rfl k_1052 k_1054 k_36 k_80 k_1055 (⟨rfl, rfl⟩) hdV_X12_its ⟨Nat.le_of_ble_eq_true rfl, Nat.le_of_ble_eq_true rfl⟩ rfl (Nat.le_of_ble_eq_true rfl) rfl dX12_stander_28 ?_
      refine j_imul X dX12_stander_31 ?_
      refine j_aload_n X dX12_stander_32 rfl rfl ?_
      refine j_iload_n X dX12_stander_33 rfl rfl ?_
      refine j_iconst (v := (1 : Int32)) X dX12_stander_34 (by decide) ?_
      obtain ⟨q5, g_q5, hf⟩ := ob_t hf
      refine j_callV X [0, 1, 2, 3, 4, 5, 6, 7, 8, 9, 10, 11, 12, 13] 0 (c_X12_its E h g g_q5) (cut_wM_wM_c ..) rfl rfl (ws' := (wM E h g q5.1)) (cut_wM_wM_w ..) (wM_0 ..) rfl k_1052 k_1054 k_36 k_80 k_1055 (⟨rfl, rfl⟩) hdV_X12_its ⟨Nat.le_of_ble_eq_true rfl, Nat.le_of_ble_eq_true rfl⟩ rfl (Nat.le_of_ble_eq_true rfl) rfl dX12_stander_35 ?_
      refine j_iadd X dX12_stander_38 ?_
      obtain ⟨y6, e_y6, hf⟩ := bd_e hf
      refine j_top e_y6 ?_
      refine j_istore_n3 X dX12_stander_39 rfl (by decide) rfl ?_
      refine j_aload_n X dX12_stander_40 rfl rfl ?_
      refine j_iload_n X dX12_stander_41 rfl rfl ?_
      refine j_iconst (v := (0 : Int32)) X dX12_stander_42 (by decide) ?_
      refine j_iload_n X dX12_stander_43 rfl rfl ?_
      refine j_bipush (v := (10 : Int32)) X dX12_stander_44 (by decide) ?_
      refine j_idiv X dX12_stander_46 (by decide) ?_
      obtain ⟨q7, g_q7, hf⟩ := ob_t hf
      refine j_callV X [0, 1, 2, 3, 4, 5, 6, 7, 8, 9, 10, 11, 12, 13] 0 (c_X12_lays1 E h g g_q7) (cut_wM_wM_c ..) rfl rfl (ws' := (wM E h g q7)) (cut_wM_wM_w ..) (wM_0 ..) rfl k_912 k_914 k_23 k_80 k_915 (⟨rfl, rfl⟩) hdV_X12_lays1 ⟨Nat.le_of_ble_eq_true rfl, Nat.le_of_ble_eq_true rfl⟩ rfl (Nat.le_of_ble_eq_true rfl) rfl dX12_stander_47 ?_
      refine j_aload_n X dX12_stander_50 rfl rfl ?_
      refine j_iload_n X dX12_stander_51 rfl rfl ?_
      refine j_iconst (v := (1 : Int32)) X dX12_stander_52 (by decide) ?_
      refine j_iload_n X dX12_stander_53 rfl rfl ?_
      refine j_bipush (v := (10 : Int32)) X dX12_stander_54 (by decide) ?_
      refine j_irem X dX12_stander_56 (by decide) ?_
      obtain ⟨q8, g_q8, hf⟩ := ob_t hf
      refine j_callV X [0, 1, 2, 3, 4, 5, 6, 7, 8, 9, 10, 11, 12, 13] 0 (c_X12_lays1 E h g g_q8) (cut_wM_wM_c ..) rfl rfl (ws' := (wM E h g q8)) (cut_wM_wM_w ..) (wM_0 ..) rfl k_912 k_914 k_23 k_80 k_915 (⟨rfl, rfl⟩) hdV_X12_lays1 ⟨Nat.le_of_ble_eq_true rfl, Nat.le_of_ble_eq_true rfl⟩ rfl (Nat.le_of_ble_eq_true rfl) rfl dX12_stander_57 ?_
      refine j_iload_n X dX12_stander_60 rfl rfl ?_
      obtain rfl := Option.some.inj hf
      exact j_iret X hr hlk rfl dX12_stander_61 hQ
    · replace hf := (if_pos c_14).symm.trans hf
      refine j_aload_n X dX12_stander_17 rfl rfl ?_
      refine j_iconst (v := (1 : Int32)) X dX12_stander_18 (by decide) ?_
      obtain ⟨q9, g_q9, hf⟩ := ob_t hf
      refine j_callV X [0, 1, 2, 3, 4, 5, 6, 7, 8, 9, 10, 11, 12, 13] 0 (c_X12_error E h g g_q9) (cut_wM_wM_c ..) rfl rfl (ws' := (wM E h g q9.1)) (cut_wM_wM_w ..) (wM_0 ..) rfl k_987 k_989 k_24 k_80 k_990 (⟨rfl, rfl⟩) hdV_X12_error ⟨Nat.le_of_ble_eq_true rfl, Nat.le_of_ble_eq_true rfl⟩ rfl (Nat.le_of_ble_eq_true rfl) rfl dX12_stander_19 ?_
      obtain rfl := Option.some.inj hf
      exact j_iret X hr hlk rfl dX12_stander_22 hQ
def f_X12_standerIs (μ : Mem) (x1 : Int32) (x2 : Int32) : Option (Mem × Int32) := (f_X12_isOne x1).bind fun q1 => ((if q1 = 0 then (f_X12_error μ (1 : Int32)).bind fun q2 => (some (q2.1, q2.2)) else (f_X12_in x2 (0 : Int32) (6 : Int32)).bind fun q3 => ((if q3 = 0 then (f_X12_error μ (1 : Int32)).bind fun q7 => (some (q7.1, q7.2)) else (if (5 : Int32) ≤ x2 then (if x2 = (5 : Int32) then (f_X12_spends μ x1).bind fun q5 => (some (q5.1, q5.2)) else (f_X12_bite μ x1).bind fun q4 => (some (q4.1, q4.2))) else (f_X12_its μ x1 x2).bind fun q6 => (some (q6.1, q6.2)))))))
set_option maxHeartbeats 4000000 in
set_option maxRecDepth 20000 in
theorem c_X12_standerIs (E : Ev) (h : Nat → Nat) (g : Nat → Option Nat) {μ : Mem} {x1 : Int32} {x2 : Int32} {r : (Mem × Int32)} (hf : f_X12_standerIs μ x1 x2 = some r) : Ct E yX12_standerIs cX12_standerIs 3 (some .int) (rmOf 4 92) (wM E h g μ) (wM E h g r.1) [.ref (h 0), .int x1, .int x2] (some (.int r.2)) := by
  refine ct_start RX12 0 (by decide) rfl (Nat.le_of_ble_eq_true rfl) ?_
  intro p l e s m args below meth c A Q X hr hlk hQ
  rw [f_X12_standerIs] at hf
  refine j_iload_n X dX12_standerIs_0 rfl rfl ?_
  obtain ⟨q1, g_q1, hf⟩ := ob_t hf
  refine j_callS X [] (c_X12_isOne E g_q1) rfl rfl rfl (ws' := (wM E h g μ)) rfl k_1049 k_1050 k_80 k_1051 (⟨rfl, rfl⟩) hdS_X12_isOne ⟨Nat.le_of_ble_eq_true rfl, Nat.le_of_ble_eq_true rfl⟩ rfl (Nat.le_of_ble_eq_true rfl) rfl dX12_standerIs_1 ?_
  refine j_if_eq (tgt := 17) X dX12_standerIs_4 (by decide) (fun c_4 => ?_) (fun c_4 => ?_)
  · replace hf := (if_pos c_4).symm.trans hf
    refine j_aload_n X dX12_standerIs_17 rfl rfl ?_
    refine j_iconst (v := (1 : Int32)) X dX12_standerIs_18 (by decide) ?_
    obtain ⟨q2, g_q2, hf⟩ := ob_t hf
    refine j_callV X [0, 1, 2, 3, 4, 5, 6, 7, 8, 9, 10, 11, 12, 13] 0 (c_X12_error E h g g_q2) (cut_wM_wM_c ..) rfl rfl (ws' := (wM E h g q2.1)) (cut_wM_wM_w ..) (wM_0 ..) rfl k_987 k_989 k_24 k_80 k_990 (⟨rfl, rfl⟩) hdV_X12_error ⟨Nat.le_of_ble_eq_true rfl, Nat.le_of_ble_eq_true rfl⟩ rfl (Nat.le_of_ble_eq_true rfl) rfl dX12_standerIs_19 ?_
    obtain rfl := Option.some.inj hf
    exact j_iret X hr hlk rfl dX12_standerIs_22 hQ
  · replace hf := (if_neg c_4).symm.trans hf
    refine j_iload_n X dX12_standerIs_7 rfl rfl ?_
    refine j_iconst (v := (0 : Int32)) X dX12_standerIs_8 (by decide) ?_
    refine j_bipush (v := (6 : Int32)) X dX12_standerIs_9 (by decide) ?_
    obtain ⟨q3, g_q3, hf⟩ := ob_t hf
    refine j_callS X [] (c_X12_in E g_q3) rfl rfl rfl (ws' := (wM E h g μ)) rfl k_984 k_985 k_80 k_986 (⟨rfl, rfl⟩) hdS_X12_in ⟨Nat.le_of_ble_eq_true rfl, Nat.le_of_ble_eq_true rfl⟩ rfl (Nat.le_of_ble_eq_true rfl) rfl dX12_standerIs_11 ?_
    refine j_if_ne (tgt := 23) X dX12_standerIs_14 (by decide) (fun c_14 => ?_) (fun c_14 => ?_)
    · replace hf := (if_neg c_14).symm.trans hf
      refine j_iload_n X dX12_standerIs_23 rfl rfl ?_
      refine j_iconst (v := (5 : Int32)) X dX12_standerIs_24 (by decide) ?_
      refine j_icmp_ge (tgt := 37) X dX12_standerIs_25 (by decide) (fun c_25 => ?_) (fun c_25 => ?_)
      · replace hf := (if_pos c_25).symm.trans hf
        refine j_iload_n X dX12_standerIs_37 rfl rfl ?_
        refine j_iconst (v := (5 : Int32)) X dX12_standerIs_38 (by decide) ?_
        refine j_icmp_ne (tgt := 50) X dX12_standerIs_39 (by decide) (fun c_39 => ?_) (fun c_39 => ?_)
        · replace hf := (if_neg c_39).symm.trans hf
          refine j_aload_n X dX12_standerIs_50 rfl rfl ?_
          refine j_iload_n X dX12_standerIs_51 rfl rfl ?_
          obtain ⟨q4, g_q4, hf⟩ := ob_t hf
          refine j_callV X [0, 1, 2, 3, 4, 5, 6, 7, 8, 9, 10, 11, 12, 13] 0 (c_X12_bite E h g g_q4) (cut_wM_wM_c ..) rfl rfl (ws' := (wM E h g q4.1)) (cut_wM_wM_w ..) (wM_0 ..) rfl k_1078 k_1080 k_40 k_80 k_1081 (⟨rfl, rfl⟩) hdV_X12_bite ⟨Nat.le_of_ble_eq_true rfl, Nat.le_of_ble_eq_true rfl⟩ rfl (Nat.le_of_ble_eq_true rfl) rfl dX12_standerIs_52 ?_
          obtain rfl := Option.some.inj hf
          exact j_iret X hr hlk rfl dX12_standerIs_55 hQ
        · replace hf := (if_pos c_39).symm.trans hf
          refine j_aload_n X dX12_standerIs_42 rfl rfl ?_
          refine j_iload_n X dX12_standerIs_43 rfl rfl ?_
          obtain ⟨q5, g_q5, hf⟩ := ob_t hf
          refine j_callV X [0, 1, 2, 3, 4, 5, 6, 7, 8, 9, 10, 11, 12, 13] 0 (c_X12_spends E h g g_q5) (cut_wM_wM_c ..) rfl rfl (ws' := (wM E h g q5.1)) (cut_wM_wM_w ..) (wM_0 ..) rfl k_1060 k_1062 k_37 k_80 k_1063 (⟨rfl, rfl⟩) hdV_X12_spends ⟨Nat.le_of_ble_eq_true rfl, Nat.le_of_ble_eq_true rfl⟩ rfl (Nat.le_of_ble_eq_true rfl) rfl dX12_standerIs_44 ?_
          refine j_goto (tgt := 55) X dX12_standerIs_47 (by decide) ?_
          obtain rfl := Option.some.inj hf
          exact j_iret X hr hlk rfl dX12_standerIs_55 hQ
      · replace hf := (if_neg c_25).symm.trans hf
        refine j_aload_n X dX12_standerIs_28 rfl rfl ?_
        refine j_iload_n X dX12_standerIs_29 rfl rfl ?_
        refine j_iload_n X dX12_standerIs_30 rfl rfl ?_
        obtain ⟨q6, g_q6, hf⟩ := ob_t hf
        refine j_callV X [0, 1, 2, 3, 4, 5, 6, 7, 8, 9, 10, 11, 12, 13] 0 (c_X12_its E h g g_q6) (cut_wM_wM_c ..) rfl rfl (ws' := (wM E h g q6.1)) (cut_wM_wM_w ..) (wM_0 ..) rfl k_1052 k_1054 k_36 k_80 k_1055 (⟨rfl, rfl⟩) hdV_X12_its ⟨Nat.le_of_ble_eq_true rfl, Nat.le_of_ble_eq_true rfl⟩ rfl (Nat.le_of_ble_eq_true rfl) rfl dX12_standerIs_31 ?_
        refine j_goto (tgt := 55) X dX12_standerIs_34 (by decide) ?_
        obtain rfl := Option.some.inj hf
        exact j_iret X hr hlk rfl dX12_standerIs_55 hQ
    · replace hf := (if_pos c_14).symm.trans hf
      refine j_aload_n X dX12_standerIs_17 rfl rfl ?_
      refine j_iconst (v := (1 : Int32)) X dX12_standerIs_18 (by decide) ?_
      obtain ⟨q7, g_q7, hf⟩ := ob_t hf
      refine j_callV X [0, 1, 2, 3, 4, 5, 6, 7, 8, 9, 10, 11, 12, 13] 0 (c_X12_error E h g g_q7) (cut_wM_wM_c ..) rfl rfl (ws' := (wM E h g q7.1)) (cut_wM_wM_w ..) (wM_0 ..) rfl k_987 k_989 k_24 k_80 k_990 (⟨rfl, rfl⟩) hdV_X12_error ⟨Nat.le_of_ble_eq_true rfl, Nat.le_of_ble_eq_true rfl⟩ rfl (Nat.le_of_ble_eq_true rfl) rfl dX12_standerIs_19 ?_
      obtain rfl := Option.some.inj hf
      exact j_iret X hr hlk rfl dX12_standerIs_22 hQ
def f_X12_isUnder_L19 (x0 : Int32) (x1 : Int32) : Option Int32 := (if x1 = (2 : Int32) then (if x0 = (5 : Int32) then some (1 : Int32) else some (0 : Int32)) else some (0 : Int32))
def f_X12_isUnder (x0 : Int32) (x1 : Int32) : Option Int32 := (if x1 = 0 then some (1 : Int32) else (if x0 = x1 then some (1 : Int32) else (if x1 = (1 : Int32) then (if x0 = (4 : Int32) then some (1 : Int32) else f_X12_isUnder_L19 x0 x1) else f_X12_isUnder_L19 x0 x1)))
set_option maxHeartbeats 4000000 in
set_option maxRecDepth 20000 in
theorem c_X12_isUnder (E : Ev) {x0 : Int32} {x1 : Int32} {r : Int32} (hf : f_X12_isUnder x0 x1 = some r) : Ct E yX12_isUnder cX12_isUnder 2 (some .boolean) (rmOf 0 0) [] [] [.int x0, .int x1] (some (.int r)) := by
  refine ct_start RX12 0 (by decide) rfl (Nat.le_of_ble_eq_true rfl) ?_
  intro p l e s m args below meth c A Q X hr hlk hQ
  have lab19 : ∀ (x0 : Int32) (x1 : Int32), f_X12_isUnder_L19 x0 x1 = some r → J p l e (rmOf 0 0) s m args below meth c E A 2 Q [] [some (.int x0), some (.int x1)] 19 [] := by
    intro  x0 x1 hf
    rw [f_X12_isUnder_L19] at hf
    refine j_iload_n X dX12_isUnder_19 rfl rfl ?_
    refine j_iconst (v := (2 : Int32)) X dX12_isUnder_20 (by decide) ?_
    refine j_icmp_ne (tgt := 33) X dX12_isUnder_21 (by decide) (fun c_21 => ?_) (fun c_21 => ?_)
    · replace hf := (if_neg c_21).symm.trans hf
      refine j_iconst (v := (0 : Int32)) X dX12_isUnder_33 (by decide) ?_
      obtain rfl := Option.some.inj hf
      exact j_iret X hr hlk rfl dX12_isUnder_34 hQ
    · replace hf := (if_pos c_21).symm.trans hf
      refine j_iload_n X dX12_isUnder_24 rfl rfl ?_
      refine j_iconst (v := (5 : Int32)) X dX12_isUnder_25 (by decide) ?_
      refine j_icmp_ne (tgt := 33) X dX12_isUnder_26 (by decide) (fun c_26 => ?_) (fun c_26 => ?_)
      · replace hf := (if_neg c_26).symm.trans hf
        refine j_iconst (v := (0 : Int32)) X dX12_isUnder_33 (by decide) ?_
        obtain rfl := Option.some.inj hf
        exact j_iret X hr hlk rfl dX12_isUnder_34 hQ
      · replace hf := (if_pos c_26).symm.trans hf
        refine j_iconst (v := (1 : Int32)) X dX12_isUnder_29 (by decide) ?_
        refine j_goto (tgt := 34) X dX12_isUnder_30 (by decide) ?_
        obtain rfl := Option.some.inj hf
        exact j_iret X hr hlk rfl dX12_isUnder_34 hQ
  rw [f_X12_isUnder] at hf
  refine j_iload_n X dX12_isUnder_0 rfl rfl ?_
  refine j_if_eq (tgt := 29) X dX12_isUnder_1 (by decide) (fun c_1 => ?_) (fun c_1 => ?_)
  · replace hf := (if_pos c_1).symm.trans hf
    refine j_iconst (v := (1 : Int32)) X dX12_isUnder_29 (by decide) ?_
    refine j_goto (tgt := 34) X dX12_isUnder_30 (by decide) ?_
    obtain rfl := Option.some.inj hf
    exact j_iret X hr hlk rfl dX12_isUnder_34 hQ
  · replace hf := (if_neg c_1).symm.trans hf
    refine j_iload_n X dX12_isUnder_4 rfl rfl ?_
    refine j_iload_n X dX12_isUnder_5 rfl rfl ?_
    refine j_icmp_eq (tgt := 29) X dX12_isUnder_6 (by decide) (fun c_6 => ?_) (fun c_6 => ?_)
    · replace hf := (if_pos c_6).symm.trans hf
      refine j_iconst (v := (1 : Int32)) X dX12_isUnder_29 (by decide) ?_
      refine j_goto (tgt := 34) X dX12_isUnder_30 (by decide) ?_
      obtain rfl := Option.some.inj hf
      exact j_iret X hr hlk rfl dX12_isUnder_34 hQ
    · replace hf := (if_neg c_6).symm.trans hf
      refine j_iload_n X dX12_isUnder_9 rfl rfl ?_
      refine j_iconst (v := (1 : Int32)) X dX12_isUnder_10 (by decide) ?_
      refine j_icmp_ne (tgt := 19) X dX12_isUnder_11 (by decide) (fun c_11 => ?_) (fun c_11 => ?_)
      · replace hf := (if_neg c_11).symm.trans hf
        refine j_keep [true, true] rfl ?_
        exact lab19 _ _ hf
      · replace hf := (if_pos c_11).symm.trans hf
        refine j_iload_n X dX12_isUnder_14 rfl rfl ?_
        refine j_iconst (v := (4 : Int32)) X dX12_isUnder_15 (by decide) ?_
        refine j_icmp_eq (tgt := 29) X dX12_isUnder_16 (by decide) (fun c_16 => ?_) (fun c_16 => ?_)
        · replace hf := (if_pos c_16).symm.trans hf
          refine j_iconst (v := (1 : Int32)) X dX12_isUnder_29 (by decide) ?_
          refine j_goto (tgt := 34) X dX12_isUnder_30 (by decide) ?_
          obtain rfl := Option.some.inj hf
          exact j_iret X hr hlk rfl dX12_isUnder_34 hQ
        · replace hf := (if_neg c_16).symm.trans hf
          refine j_keep [true, true] rfl ?_
          exact lab19 _ _ hf
def f_X12_as (μ : Mem) (x1 : Int32) (x2 : Int32) : Option (Mem × Int32) := (f_X12_isOne x1).bind fun q1 => ((if q1 = 0 then (f_X12_error μ (1 : Int32)).bind fun q2 => (some (q2.1, q2.2)) else (f_X12_in x2 (0 : Int32) (6 : Int32)).bind fun q3 => ((if q3 = 0 then (f_X12_error μ (1 : Int32)).bind fun q8 => (some (q8.1, q8.2)) else (f_X12_its μ x1 (0 : Int32)).bind fun q4 => ((f_X12_isUnder q4.2 x2).bind fun q5 => ((if q5 = 0 then (f_X12_error q4.1 (5 : Int32)).bind fun q6 => (some (q6.1, q6.2)) else (f_X12_its q4.1 x1 (1 : Int32)).bind fun q7 => (some (q7.1, q7.2)))))))))
set_option maxHeartbeats 4000000 in
set_option maxRecDepth 20000 in
theorem c_X12_as (E : Ev) (h : Nat → Nat) (g : Nat → Option Nat) {μ : Mem} {x1 : Int32} {x2 : Int32} {r : (Mem × Int32)} (hf : f_X12_as μ x1 x2 = some r) : Ct E yX12_as cX12_as 3 (some .int) (rmOf 2 42) (wM E h g μ) (wM E h g r.1) [.ref (h 0), .int x1, .int x2] (some (.int r.2)) := by
  refine ct_start RX12 0 (by decide) rfl (Nat.le_of_ble_eq_true rfl) ?_
  intro p l e s m args below meth c A Q X hr hlk hQ
  rw [f_X12_as] at hf
  refine j_iload_n X dX12_as_0 rfl rfl ?_
  obtain ⟨q1, g_q1, hf⟩ := ob_t hf
  refine j_callS X [] (c_X12_isOne E g_q1) rfl rfl rfl (ws' := (wM E h g μ)) rfl k_1049 k_1050 k_80 k_1051 (⟨rfl, rfl⟩) hdS_X12_isOne ⟨Nat.le_of_ble_eq_true rfl, Nat.le_of_ble_eq_true rfl⟩ rfl (Nat.le_of_ble_eq_true rfl) rfl dX12_as_1 ?_
  refine j_if_eq (tgt := 17) X dX12_as_4 (by decide) (fun c_4 => ?_) (fun c_4 => ?_)
  · replace hf := (if_pos c_4).symm.trans hf
    refine j_aload_n X dX12_as_17 rfl rfl ?_
    refine j_iconst (v := (1 : Int32)) X dX12_as_18 (by decide) ?_
    obtain ⟨q2, g_q2, hf⟩ := ob_t hf
    refine j_callV X [0, 1, 2, 3, 4, 5, 6, 7, 8, 9, 10, 11, 12, 13] 0 (c_X12_error E h g g_q2) (cut_wM_wM_c ..) rfl rfl (ws' := (wM E h g q2.1)) (cut_wM_wM_w ..) (wM_0 ..) rfl k_987 k_989 k_24 k_80 k_990 (⟨rfl, rfl⟩) hdV_X12_error ⟨Nat.le_of_ble_eq_true rfl, Nat.le_of_ble_eq_true rfl⟩ rfl (Nat.le_of_ble_eq_true rfl) rfl dX12_as_19 ?_
    obtain rfl := Option.some.inj hf
    exact j_iret X hr hlk rfl dX12_as_22 hQ
  · replace hf := (if_neg c_4).symm.trans hf
    refine j_iload_n X dX12_as_7 rfl rfl ?_
    refine j_iconst (v := (0 : Int32)) X dX12_as_8 (by decide) ?_
    refine j_bipush (v := (6 : Int32)) X dX12_as_9 (by decide) ?_
    obtain ⟨q3, g_q3, hf⟩ := ob_t hf
    refine j_callS X [] (c_X12_in E g_q3) rfl rfl rfl (ws' := (wM E h g μ)) rfl k_984 k_985 k_80 k_986 (⟨rfl, rfl⟩) hdS_X12_in ⟨Nat.le_of_ble_eq_true rfl, Nat.le_of_ble_eq_true rfl⟩ rfl (Nat.le_of_ble_eq_true rfl) rfl dX12_as_11 ?_
    refine j_if_ne (tgt := 23) X dX12_as_14 (by decide) (fun c_14 => ?_) (fun c_14 => ?_)
    · replace hf := (if_neg c_14).symm.trans hf
      refine j_aload_n X dX12_as_23 rfl rfl ?_
      refine j_iload_n X dX12_as_24 rfl rfl ?_
      refine j_iconst (v := (0 : Int32)) X dX12_as_25 (by decide) ?_
      obtain ⟨q4, g_q4, hf⟩ := ob_t hf
      refine j_callV X [0, 1, 2, 3, 4, 5, 6, 7, 8, 9, 10, 11, 12, 13] 0 (c_X12_its E h g g_q4) (cut_wM_wM_c ..) rfl rfl (ws' := (wM E h g q4.1)) (cut_wM_wM_w ..) (wM_0 ..) rfl k_1052 k_1054 k_36 k_80 k_1055 (⟨rfl, rfl⟩) hdV_X12_its ⟨Nat.le_of_ble_eq_true rfl, Nat.le_of_ble_eq_true rfl⟩ rfl (Nat.le_of_ble_eq_true rfl) rfl dX12_as_26 ?_
      refine j_iload_n X dX12_as_29 rfl rfl ?_
      obtain ⟨q5, g_q5, hf⟩ := ob_t hf
      refine j_callS X [] (c_X12_isUnder E g_q5) rfl rfl rfl (ws' := (wM E h g q4.1)) rfl k_1086 k_1087 k_80 k_1088 (⟨rfl, rfl⟩) hdS_X12_isUnder ⟨Nat.le_of_ble_eq_true rfl, Nat.le_of_ble_eq_true rfl⟩ rfl (Nat.le_of_ble_eq_true rfl) rfl dX12_as_30 ?_
      refine j_if_eq (tgt := 45) X dX12_as_33 (by decide) (fun c_33 => ?_) (fun c_33 => ?_)
      · replace hf := (if_pos c_33).symm.trans hf
        refine j_aload_n X dX12_as_45 rfl rfl ?_
        refine j_iconst (v := (5 : Int32)) X dX12_as_46 (by decide) ?_
        obtain ⟨q6, g_q6, hf⟩ := ob_t hf
        refine j_callV X [0, 1, 2, 3, 4, 5, 6, 7, 8, 9, 10, 11, 12, 13] 0 (c_X12_error E h g g_q6) (cut_wM_wM_c ..) rfl rfl (ws' := (wM E h g q6.1)) (cut_wM_wM_w ..) (wM_0 ..) rfl k_987 k_989 k_24 k_80 k_990 (⟨rfl, rfl⟩) hdV_X12_error ⟨Nat.le_of_ble_eq_true rfl, Nat.le_of_ble_eq_true rfl⟩ rfl (Nat.le_of_ble_eq_true rfl) rfl dX12_as_47 ?_
        obtain rfl := Option.some.inj hf
        exact j_iret X hr hlk rfl dX12_as_50 hQ
      · replace hf := (if_neg c_33).symm.trans hf
        refine j_aload_n X dX12_as_36 rfl rfl ?_
        refine j_iload_n X dX12_as_37 rfl rfl ?_
        refine j_iconst (v := (1 : Int32)) X dX12_as_38 (by decide) ?_
        obtain ⟨q7, g_q7, hf⟩ := ob_t hf
        refine j_callV X [0, 1, 2, 3, 4, 5, 6, 7, 8, 9, 10, 11, 12, 13] 0 (c_X12_its E h g g_q7) (cut_wM_wM_c ..) rfl rfl (ws' := (wM E h g q7.1)) (cut_wM_wM_w ..) (wM_0 ..) rfl k_1052 k_1054 k_36 k_80 k_1055 (⟨rfl, rfl⟩) hdV_X12_its ⟨Nat.le_of_ble_eq_true rfl, Nat.le_of_ble_eq_true rfl⟩ rfl (Nat.le_of_ble_eq_true rfl) rfl dX12_as_39 ?_
        refine j_goto (tgt := 50) X dX12_as_42 (by decide) ?_
        obtain rfl := Option.some.inj hf
        exact j_iret X hr hlk rfl dX12_as_50 hQ
    · replace hf := (if_pos c_14).symm.trans hf
      refine j_aload_n X dX12_as_17 rfl rfl ?_
      refine j_iconst (v := (1 : Int32)) X dX12_as_18 (by decide) ?_
      obtain ⟨q8, g_q8, hf⟩ := ob_t hf
      refine j_callV X [0, 1, 2, 3, 4, 5, 6, 7, 8, 9, 10, 11, 12, 13] 0 (c_X12_error E h g g_q8) (cut_wM_wM_c ..) rfl rfl (ws' := (wM E h g q8.1)) (cut_wM_wM_w ..) (wM_0 ..) rfl k_987 k_989 k_24 k_80 k_990 (⟨rfl, rfl⟩) hdV_X12_error ⟨Nat.le_of_ble_eq_true rfl, Nat.le_of_ble_eq_true rfl⟩ rfl (Nat.le_of_ble_eq_true rfl) rfl dX12_as_19 ?_
      obtain rfl := Option.some.inj hf
      exact j_iret X hr hlk rfl dX12_as_22 hQ
def f_X12_patience (μ : Mem) (x1 : Int32) (x2 : Int32) : Option (Mem × Int32) := (f_X12_isOne x1).bind fun q1 => ((if q1 = 0 then (f_X12_error μ (1 : Int32)).bind fun q2 => (some (q2.1, q2.2)) else (f_X12_in x2 (0 : Int32) (999 : Int32)).bind fun q3 => ((if q3 = 0 then (f_X12_error μ (1 : Int32)).bind fun q9 => (some (q9.1, q9.2)) else (f_X12_stands μ x1).bind fun q4 => ((if q4.2 = 0 then (f_X12_error q4.1 (3 : Int32)).bind fun q8 => (some (q8.1, q8.2)) else (f_X12_its q4.1 x1 (3 : Int32)).bind fun q5 => ((f_X12_lays1 q5.1 x1 (3 : Int32) x2).bind fun q6 => ((f_X12_settle q6).bind fun q7 => (some (q7.1, q5.2))))))))))
set_option maxHeartbeats 4000000 in
set_option maxRecDepth 20000 in
theorem c_X12_patience (E : Ev) (h : Nat → Nat) (g : Nat → Option Nat) {μ : Mem} {x1 : Int32} {x2 : Int32} {r : (Mem × Int32)} (hf : f_X12_patience μ x1 x2 = some r) : Ct E yX12_patience cX12_patience 5 (some .int) (rmOf 5 116) (wM E h g μ) (wM E h g r.1) [.ref (h 0), .int x1, .int x2] (some (.int r.2)) := by
  refine ct_start RX12 2 (by decide) rfl (Nat.le_of_ble_eq_true rfl) ?_
  intro p l e s m args below meth c A Q X hr hlk hQ
  rw [f_X12_patience] at hf
  refine j_iload_n X dX12_patience_0 rfl rfl ?_
  obtain ⟨q1, g_q1, hf⟩ := ob_t hf
  refine j_callS X [] (c_X12_isOne E g_q1) rfl rfl rfl (ws' := (wM E h g μ)) rfl k_1049 k_1050 k_80 k_1051 (⟨rfl, rfl⟩) hdS_X12_isOne ⟨Nat.le_of_ble_eq_true rfl, Nat.le_of_ble_eq_true rfl⟩ rfl (Nat.le_of_ble_eq_true rfl) rfl dX12_patience_1 ?_
  refine j_if_eq (tgt := 18) X dX12_patience_4 (by decide) (fun c_4 => ?_) (fun c_4 => ?_)
  · replace hf := (if_pos c_4).symm.trans hf
    refine j_aload_n X dX12_patience_18 rfl rfl ?_
    refine j_iconst (v := (1 : Int32)) X dX12_patience_19 (by decide) ?_
    obtain ⟨q2, g_q2, hf⟩ := ob_t hf
    refine j_callV X [0, 1, 2, 3, 4, 5, 6, 7, 8, 9, 10, 11, 12, 13] 0 (c_X12_error E h g g_q2) (cut_wM_wM_c ..) rfl rfl (ws' := (wM E h g q2.1)) (cut_wM_wM_w ..) (wM_0 ..) rfl k_987 k_989 k_24 k_80 k_990 (⟨rfl, rfl⟩) hdV_X12_error ⟨Nat.le_of_ble_eq_true rfl, Nat.le_of_ble_eq_true rfl⟩ rfl (Nat.le_of_ble_eq_true rfl) rfl dX12_patience_20 ?_
    obtain rfl := Option.some.inj hf
    exact j_iret X hr hlk rfl dX12_patience_23 hQ
  · replace hf := (if_neg c_4).symm.trans hf
    refine j_iload_n X dX12_patience_7 rfl rfl ?_
    refine j_iconst (v := (0 : Int32)) X dX12_patience_8 (by decide) ?_
    refine j_sipush (v := (999 : Int32)) X dX12_patience_9 (by decide) ?_
    obtain ⟨q3, g_q3, hf⟩ := ob_t hf
    refine j_callS X [] (c_X12_in E g_q3) rfl rfl rfl (ws' := (wM E h g μ)) rfl k_984 k_985 k_80 k_986 (⟨rfl, rfl⟩) hdS_X12_in ⟨Nat.le_of_ble_eq_true rfl, Nat.le_of_ble_eq_true rfl⟩ rfl (Nat.le_of_ble_eq_true rfl) rfl dX12_patience_12 ?_
    refine j_if_ne (tgt := 24) X dX12_patience_15 (by decide) (fun c_15 => ?_) (fun c_15 => ?_)
    · replace hf := (if_neg c_15).symm.trans hf
      refine j_aload_n X dX12_patience_24 rfl rfl ?_
      refine j_iload_n X dX12_patience_25 rfl rfl ?_
      obtain ⟨q4, g_q4, hf⟩ := ob_t hf
      refine j_callV X [0, 1, 2, 3, 4, 5, 6, 7, 8, 9, 10, 11, 12, 13] 0 (c_X12_stands E h g g_q4) (cut_wM_wM_c ..) rfl rfl (ws' := (wM E h g q4.1)) (cut_wM_wM_w ..) (wM_0 ..) rfl k_1093 k_1095 k_41 k_80 k_1096 (⟨rfl, rfl⟩) hdV_X12_stands ⟨Nat.le_of_ble_eq_true rfl, Nat.le_of_ble_eq_true rfl⟩ rfl (Nat.le_of_ble_eq_true rfl) rfl dX12_patience_26 ?_
      refine j_if_ne (tgt := 38) X dX12_patience_29 (by decide) (fun c_29 => ?_) (fun c_29 => ?_)
      · replace hf := (if_neg c_29).symm.trans hf
        refine j_aload_n X dX12_patience_38 rfl rfl ?_
        refine j_iload_n X dX12_patience_39 rfl rfl ?_
        refine j_iconst (v := (3 : Int32)) X dX12_patience_40 (by decide) ?_
        obtain ⟨q5, g_q5, hf⟩ := ob_t hf
        refine j_callV X [0, 1, 2, 3, 4, 5, 6, 7, 8, 9, 10, 11, 12, 13] 0 (c_X12_its E h g g_q5) (cut_wM_wM_c ..) rfl rfl (ws' := (wM E h g q5.1)) (cut_wM_wM_w ..) (wM_0 ..) rfl k_1052 k_1054 k_36 k_80 k_1055 (⟨rfl, rfl⟩) hdV_X12_its ⟨Nat.le_of_ble_eq_true rfl, Nat.le_of_ble_eq_true rfl⟩ rfl (Nat.le_of_ble_eq_true rfl) rfl dX12_patience_41 ?_
        refine j_istore_n3 X dX12_patience_44 rfl (by decide) rfl ?_
        refine j_aload_n X dX12_patience_45 rfl rfl ?_
        refine j_iload_n X dX12_patience_46 rfl rfl ?_
        refine j_iconst (v := (3 : Int32)) X dX12_patience_47 (by decide) ?_
        refine j_iload_n X dX12_patience_48 rfl rfl ?_
        obtain ⟨q6, g_q6, hf⟩ := ob_t hf
        refine j_callV X [0, 1, 2, 3, 4, 5, 6, 7, 8, 9, 10, 11, 12, 13] 0 (c_X12_lays1 E h g g_q6) (cut_wM_wM_c ..) rfl rfl (ws' := (wM E h g q6)) (cut_wM_wM_w ..) (wM_0 ..) rfl k_912 k_914 k_23 k_80 k_915 (⟨rfl, rfl⟩) hdV_X12_lays1 ⟨Nat.le_of_ble_eq_true rfl, Nat.le_of_ble_eq_true rfl⟩ rfl (Nat.le_of_ble_eq_true rfl) rfl dX12_patience_49 ?_
        refine j_aload_n X dX12_patience_52 rfl rfl ?_
        obtain ⟨q7, g_q7, hf⟩ := ob_t hf
        refine j_callV X [0, 1, 2, 3, 4, 5, 6, 7, 8, 9, 10, 11, 12, 13] 0 (c_X12_settle E h g g_q7) (cut_wM_wM_c ..) rfl rfl (ws' := (wM E h g q7.1)) (cut_wM_wM_w ..) (wM_0 ..) rfl k_1097 k_1099 k_42 k_80 k_1100 (⟨rfl, rfl⟩) hdV_X12_settle ⟨Nat.le_of_ble_eq_true rfl, Nat.le_of_ble_eq_true rfl⟩ rfl (Nat.le_of_ble_eq_true rfl) rfl dX12_patience_53 ?_
        refine j_istore4 X dX12_patience_56 (by decide) rfl ?_
        refine j_iload_n X dX12_patience_58 rfl rfl ?_
        obtain rfl := Option.some.inj hf
        exact j_iret X hr hlk rfl dX12_patience_59 hQ
      · replace hf := (if_pos c_29).symm.trans hf
        refine j_aload_n X dX12_patience_32 rfl rfl ?_
        refine j_iconst (v := (3 : Int32)) X dX12_patience_33 (by decide) ?_
        obtain ⟨q8, g_q8, hf⟩ := ob_t hf
        refine j_callV X [0, 1, 2, 3, 4, 5, 6, 7, 8, 9, 10, 11, 12, 13] 0 (c_X12_error E h g g_q8) (cut_wM_wM_c ..) rfl rfl (ws' := (wM E h g q8.1)) (cut_wM_wM_w ..) (wM_0 ..) rfl k_987 k_989 k_24 k_80 k_990 (⟨rfl, rfl⟩) hdV_X12_error ⟨Nat.le_of_ble_eq_true rfl, Nat.le_of_ble_eq_true rfl⟩ rfl (Nat.le_of_ble_eq_true rfl) rfl dX12_patience_34 ?_
        obtain rfl := Option.some.inj hf
        exact j_iret X hr hlk rfl dX12_patience_37 hQ
    · replace hf := (if_pos c_15).symm.trans hf
      refine j_aload_n X dX12_patience_18 rfl rfl ?_
      refine j_iconst (v := (1 : Int32)) X dX12_patience_19 (by decide) ?_
      obtain ⟨q9, g_q9, hf⟩ := ob_t hf
      refine j_callV X [0, 1, 2, 3, 4, 5, 6, 7, 8, 9, 10, 11, 12, 13] 0 (c_X12_error E h g g_q9) (cut_wM_wM_c ..) rfl rfl (ws' := (wM E h g q9.1)) (cut_wM_wM_w ..) (wM_0 ..) rfl k_987 k_989 k_24 k_80 k_990 (⟨rfl, rfl⟩) hdV_X12_error ⟨Nat.le_of_ble_eq_true rfl, Nat.le_of_ble_eq_true rfl⟩ rfl (Nat.le_of_ble_eq_true rfl) rfl dX12_patience_20 ?_
      obtain rfl := Option.some.inj hf
      exact j_iret X hr hlk rfl dX12_patience_23 hQ
def f_X12_swaps (μ : Mem) (x1 : Int32) (x2 : Int32) : Option Mem := (f_X12_its μ x1 (2 : Int32)).bind fun q1 => ((f_X12_its q1.1 x2 (2 : Int32)).bind fun q2 => ((f_X12_lays1 q2.1 x1 (2 : Int32) q2.2).bind fun q3 => ((f_X12_lays1 q3 x2 (2 : Int32) q1.2).bind fun q4 => (some q4))))
set_option maxHeartbeats 4000000 in
set_option maxRecDepth 20000 in
theorem c_X12_swaps (E : Ev) (h : Nat → Nat) (g : Nat → Option Nat) {μ : Mem} {x1 : Int32} {x2 : Int32} {r : Mem} (hf : f_X12_swaps μ x1 x2 = some r) : Ct E yX12_swaps cX12_swaps 4 none (rmOf 1 23) (wM E h g μ) (wM E h g r) [.ref (h 0), .int x1, .int x2] none := by
  refine ct_start RX12 1 (by decide) rfl (Nat.le_of_ble_eq_true rfl) ?_
  intro p l e s m args below meth c A Q X hr hlk hQ
  rw [f_X12_swaps] at hf
  refine j_aload_n X dX12_swaps_0 rfl rfl ?_
  refine j_iload_n X dX12_swaps_1 rfl rfl ?_
  refine j_iconst (v := (2 : Int32)) X dX12_swaps_2 (by decide) ?_
  obtain ⟨q1, g_q1, hf⟩ := ob_t hf
  refine j_callV X [0, 1, 2, 3, 4, 5, 6, 7, 8, 9, 10, 11, 12, 13] 0 (c_X12_its E h g g_q1) (cut_wM_wM_c ..) rfl rfl (ws' := (wM E h g q1.1)) (cut_wM_wM_w ..) (wM_0 ..) rfl k_1052 k_1054 k_36 k_80 k_1055 (⟨rfl, rfl⟩) hdV_X12_its ⟨Nat.le_of_ble_eq_true rfl, Nat.le_of_ble_eq_true rfl⟩ rfl (Nat.le_of_ble_eq_true rfl) rfl dX12_swaps_3 ?_
  refine j_istore_n3 X dX12_swaps_6 rfl (by decide) rfl ?_
  refine j_aload_n X dX12_swaps_7 rfl rfl ?_
  refine j_iload_n X dX12_swaps_8 rfl rfl ?_
  refine j_iconst (v := (2 : Int32)) X dX12_swaps_9 (by decide) ?_
  refine j_aload_n X dX12_swaps_10 rfl rfl ?_
  refine j_iload_n X dX12_swaps_11 rfl rfl ?_
  refine j_iconst (v := (2 : Int32)) X dX12_swaps_12 (by decide) ?_
  obtain ⟨q2, g_q2, hf⟩ := ob_t hf
  refine j_callV X [0, 1, 2, 3, 4, 5, 6, 7, 8, 9, 10, 11, 12, 13] 0 (c_X12_its E h g g_q2) (cut_wM_wM_c ..) rfl rfl (ws' := (wM E h g q2.1)) (cut_wM_wM_w ..) (wM_0 ..) rfl k_1052 k_1054 k_36 k_80 k_1055 (⟨rfl, rfl⟩) hdV_X12_its ⟨Nat.le_of_ble_eq_true rfl, Nat.le_of_ble_eq_true rfl⟩ rfl (Nat.le_of_ble_eq_true rfl) rfl dX12_swaps_13 ?_
  obtain ⟨q3, g_q3, hf⟩ := ob_t hf
  refine j_callV X [0, 1, 2, 3, 4, 5, 6, 7, 8, 9, 10, 11, 12, 13] 0 (c_X12_lays1 E h g g_q3) (cut_wM_wM_c ..) rfl rfl (ws' := (wM E h g q3)) (cut_wM_wM_w ..) (wM_0 ..) rfl k_912 k_914 k_23 k_80 k_915 (⟨rfl, rfl⟩) hdV_X12_lays1 ⟨Nat.le_of_ble_eq_true rfl, Nat.le_of_ble_eq_true rfl⟩ rfl (Nat.le_of_ble_eq_true rfl) rfl dX12_swaps_16 ?_
  refine j_aload_n X dX12_swaps_19 rfl rfl ?_
  refine j_iload_n X dX12_swaps_20 rfl rfl ?_
  refine j_iconst (v := (2 : Int32)) X dX12_swaps_21 (by decide) ?_
  refine j_iload_n X dX12_swaps_22 rfl rfl ?_
  obtain ⟨q4, g_q4, hf⟩ := ob_t hf
  refine j_callV X [0, 1, 2, 3, 4, 5, 6, 7, 8, 9, 10, 11, 12, 13] 0 (c_X12_lays1 E h g g_q4) (cut_wM_wM_c ..) rfl rfl (ws' := (wM E h g q4)) (cut_wM_wM_w ..) (wM_0 ..) rfl k_912 k_914 k_23 k_80 k_915 (⟨rfl, rfl⟩) hdV_X12_lays1 ⟨Nat.le_of_ble_eq_true rfl, Nat.le_of_ble_eq_true rfl⟩ rfl (Nat.le_of_ble_eq_true rfl) rfl dX12_swaps_23 ?_
  obtain rfl := Option.some.inj hf
  exact j_vret X hr hlk dX12_swaps_26 hQ
def f_X12_swap (μ : Mem) (x1 : Int32) (x2 : Int32) : Option (Mem × Int32) := (f_X12_isOne x1).bind fun q1 => ((if q1 = 0 then (f_X12_error μ (1 : Int32)).bind fun q2 => (some (q2.1, q2.2)) else (f_X12_isOne x2).bind fun q3 => ((if q3 = 0 then (f_X12_error μ (1 : Int32)).bind fun q10 => (some (q10.1, q10.2)) else (f_X12_stands μ x1).bind fun q4 => ((if q4.2 = 0 then (f_X12_error q4.1 (3 : Int32)).bind fun q5 => (some (q5.1, q5.2)) else (f_X12_stands q4.1 x2).bind fun q6 => ((if q6.2 = 0 then (f_X12_error q6.1 (3 : Int32)).bind fun q9 => (some (q9.1, q9.2)) else (f_X12_swaps q6.1 x1 x2).bind fun q7 => ((f_X12_its q7 x1 (2 : Int32)).bind fun q8 => (some (q8.1, q8.2)))))))))))
set_option maxHeartbeats 4000000 in
set_option maxRecDepth 20000 in
theorem c_X12_swap (E : Ev) (h : Nat → Nat) (g : Nat → Option Nat) {μ : Mem} {x1 : Int32} {x2 : Int32} {r : (Mem × Int32)} (hf : f_X12_swap μ x1 x2 = some r) : Ct E yX12_swap cX12_swap 3 (some .int) (rmOf 2 46) (wM E h g μ) (wM E h g r.1) [.ref (h 0), .int x1, .int x2] (some (.int r.2)) := by
  refine ct_start RX12 0 (by decide) rfl (Nat.le_of_ble_eq_true rfl) ?_
  intro p l e s m args below meth c A Q X hr hlk hQ
  rw [f_X12_swap] at hf
  refine j_iload_n X dX12_swap_0 rfl rfl ?_
  obtain ⟨q1, g_q1, hf⟩ := ob_t hf
  refine j_callS X [] (c_X12_isOne E g_q1) rfl rfl rfl (ws' := (wM E h g μ)) rfl k_1049 k_1050 k_80 k_1051 (⟨rfl, rfl⟩) hdS_X12_isOne ⟨Nat.le_of_ble_eq_true rfl, Nat.le_of_ble_eq_true rfl⟩ rfl (Nat.le_of_ble_eq_true rfl) rfl dX12_swap_1 ?_
  refine j_if_eq (tgt := 14) X dX12_swap_4 (by decide) (fun c_4 => ?_) (fun c_4 => ?_)
  · replace hf := (if_pos c_4).symm.trans hf
    refine j_aload_n X dX12_swap_14 rfl rfl ?_
    refine j_iconst (v := (1 : Int32)) X dX12_swap_15 (by decide) ?_
    obtain ⟨q2, g_q2, hf⟩ := ob_t hf
    refine j_callV X [0, 1, 2, 3, 4, 5, 6, 7, 8, 9, 10, 11, 12, 13] 0 (c_X12_error E h g g_q2) (cut_wM_wM_c ..) rfl rfl (ws' := (wM E h g q2.1)) (cut_wM_wM_w ..) (wM_0 ..) rfl k_987 k_989 k_24 k_80 k_990 (⟨rfl, rfl⟩) hdV_X12_error ⟨Nat.le_of_ble_eq_true rfl, Nat.le_of_ble_eq_true rfl⟩ rfl (Nat.le_of_ble_eq_true rfl) rfl dX12_swap_16 ?_
    obtain rfl := Option.some.inj hf
    exact j_iret X hr hlk rfl dX12_swap_19 hQ
  · replace hf := (if_neg c_4).symm.trans hf
    refine j_iload_n X dX12_swap_7 rfl rfl ?_
    obtain ⟨q3, g_q3, hf⟩ := ob_t hf
    refine j_callS X [] (c_X12_isOne E g_q3) rfl rfl rfl (ws' := (wM E h g μ)) rfl k_1049 k_1050 k_80 k_1051 (⟨rfl, rfl⟩) hdS_X12_isOne ⟨Nat.le_of_ble_eq_true rfl, Nat.le_of_ble_eq_true rfl⟩ rfl (Nat.le_of_ble_eq_true rfl) rfl dX12_swap_8 ?_
    refine j_if_ne (tgt := 20) X dX12_swap_11 (by decide) (fun c_11 => ?_) (fun c_11 => ?_)
    · replace hf := (if_neg c_11).symm.trans hf
      refine j_aload_n X dX12_swap_20 rfl rfl ?_
      refine j_iload_n X dX12_swap_21 rfl rfl ?_
      obtain ⟨q4, g_q4, hf⟩ := ob_t hf
      refine j_callV X [0, 1, 2, 3, 4, 5, 6, 7, 8, 9, 10, 11, 12, 13] 0 (c_X12_stands E h g g_q4) (cut_wM_wM_c ..) rfl rfl (ws' := (wM E h g q4.1)) (cut_wM_wM_w ..) (wM_0 ..) rfl k_1093 k_1095 k_41 k_80 k_1096 (⟨rfl, rfl⟩) hdV_X12_stands ⟨Nat.le_of_ble_eq_true rfl, Nat.le_of_ble_eq_true rfl⟩ rfl (Nat.le_of_ble_eq_true rfl) rfl dX12_swap_22 ?_
      refine j_if_eq (tgt := 36) X dX12_swap_25 (by decide) (fun c_25 => ?_) (fun c_25 => ?_)
      · replace hf := (if_pos c_25).symm.trans hf
        refine j_aload_n X dX12_swap_36 rfl rfl ?_
        refine j_iconst (v := (3 : Int32)) X dX12_swap_37 (by decide) ?_
        obtain ⟨q5, g_q5, hf⟩ := ob_t hf
        refine j_callV X [0, 1, 2, 3, 4, 5, 6, 7, 8, 9, 10, 11, 12, 13] 0 (c_X12_error E h g g_q5) (cut_wM_wM_c ..) rfl rfl (ws' := (wM E h g q5.1)) (cut_wM_wM_w ..) (wM_0 ..) rfl k_987 k_989 k_24 k_80 k_990 (⟨rfl, rfl⟩) hdV_X12_error ⟨Nat.le_of_ble_eq_true rfl, Nat.le_of_ble_eq_true rfl⟩ rfl (Nat.le_of_ble_eq_true rfl) rfl dX12_swap_38 ?_
        obtain rfl := Option.some.inj hf
        exact j_iret X hr hlk rfl dX12_swap_41 hQ
      · replace hf := (if_neg c_25).symm.trans hf
        refine j_aload_n X dX12_swap_28 rfl rfl ?_
        refine j_iload_n X dX12_swap_29 rfl rfl ?_
        obtain ⟨q6, g_q6, hf⟩ := ob_t hf
        refine j_callV X [0, 1, 2, 3, 4, 5, 6, 7, 8, 9, 10, 11, 12, 13] 0 (c_X12_stands E h g g_q6) (cut_wM_wM_c ..) rfl rfl (ws' := (wM E h g q6.1)) (cut_wM_wM_w ..) (wM_0 ..) rfl k_1093 k_1095 k_41 k_80 k_1096 (⟨rfl, rfl⟩) hdV_X12_stands ⟨Nat.le_of_ble_eq_true rfl, Nat.le_of_ble_eq_true rfl⟩ rfl (Nat.le_of_ble_eq_true rfl) rfl dX12_swap_30 ?_
        refine j_if_ne (tgt := 42) X dX12_swap_33 (by decide) (fun c_33 => ?_) (fun c_33 => ?_)
        · replace hf := (if_neg c_33).symm.trans hf
          refine j_aload_n X dX12_swap_42 rfl rfl ?_
          refine j_iload_n X dX12_swap_43 rfl rfl ?_
          refine j_iload_n X dX12_swap_44 rfl rfl ?_
          obtain ⟨q7, g_q7, hf⟩ := ob_t hf
          refine j_callV X [0, 1, 2, 3, 4, 5, 6, 7, 8, 9, 10, 11, 12, 13] 0 (c_X12_swaps E h g g_q7) (cut_wM_wM_c ..) rfl rfl (ws' := (wM E h g q7)) (cut_wM_wM_w ..) (wM_0 ..) rfl k_1117 k_1119 k_46 k_80 k_1120 (⟨rfl, rfl⟩) hdV_X12_swaps ⟨Nat.le_of_ble_eq_true rfl, Nat.le_of_ble_eq_true rfl⟩ rfl (Nat.le_of_ble_eq_true rfl) rfl dX12_swap_45 ?_
          refine j_aload_n X dX12_swap_48 rfl rfl ?_
          refine j_iload_n X dX12_swap_49 rfl rfl ?_
          refine j_iconst (v := (2 : Int32)) X dX12_swap_50 (by decide) ?_
          obtain ⟨q8, g_q8, hf⟩ := ob_t hf
          refine j_callV X [0, 1, 2, 3, 4, 5, 6, 7, 8, 9, 10, 11, 12, 13] 0 (c_X12_its E h g g_q8) (cut_wM_wM_c ..) rfl rfl (ws' := (wM E h g q8.1)) (cut_wM_wM_w ..) (wM_0 ..) rfl k_1052 k_1054 k_36 k_80 k_1055 (⟨rfl, rfl⟩) hdV_X12_its ⟨Nat.le_of_ble_eq_true rfl, Nat.le_of_ble_eq_true rfl⟩ rfl (Nat.le_of_ble_eq_true rfl) rfl dX12_swap_51 ?_
          obtain rfl := Option.some.inj hf
          exact j_iret X hr hlk rfl dX12_swap_54 hQ
        · replace hf := (if_pos c_33).symm.trans hf
          refine j_aload_n X dX12_swap_36 rfl rfl ?_
          refine j_iconst (v := (3 : Int32)) X dX12_swap_37 (by decide) ?_
          obtain ⟨q9, g_q9, hf⟩ := ob_t hf
          refine j_callV X [0, 1, 2, 3, 4, 5, 6, 7, 8, 9, 10, 11, 12, 13] 0 (c_X12_error E h g g_q9) (cut_wM_wM_c ..) rfl rfl (ws' := (wM E h g q9.1)) (cut_wM_wM_w ..) (wM_0 ..) rfl k_987 k_989 k_24 k_80 k_990 (⟨rfl, rfl⟩) hdV_X12_error ⟨Nat.le_of_ble_eq_true rfl, Nat.le_of_ble_eq_true rfl⟩ rfl (Nat.le_of_ble_eq_true rfl) rfl dX12_swap_38 ?_
          obtain rfl := Option.some.inj hf
          exact j_iret X hr hlk rfl dX12_swap_41 hQ
    · replace hf := (if_pos c_11).symm.trans hf
      refine j_aload_n X dX12_swap_14 rfl rfl ?_
      refine j_iconst (v := (1 : Int32)) X dX12_swap_15 (by decide) ?_
      obtain ⟨q10, g_q10, hf⟩ := ob_t hf
      refine j_callV X [0, 1, 2, 3, 4, 5, 6, 7, 8, 9, 10, 11, 12, 13] 0 (c_X12_error E h g g_q10) (cut_wM_wM_c ..) rfl rfl (ws' := (wM E h g q10.1)) (cut_wM_wM_w ..) (wM_0 ..) rfl k_987 k_989 k_24 k_80 k_990 (⟨rfl, rfl⟩) hdV_X12_error ⟨Nat.le_of_ble_eq_true rfl, Nat.le_of_ble_eq_true rfl⟩ rfl (Nat.le_of_ble_eq_true rfl) rfl dX12_swap_16 ?_
      obtain rfl := Option.some.inj hf
      exact j_iret X hr hlk rfl dX12_swap_19 hQ
def f_X12_again (μ : Mem) (x1 : Int32) (x2 : Int32) : Option (Mem × Int32) := (f_X12_isOne x1).bind fun q1 => ((if q1 = 0 then (f_X12_error μ (1 : Int32)).bind fun q2 => (some (q2.1, q2.2)) else (f_X12_in x2 (1 : Int32) (999 : Int32)).bind fun q3 => ((if q3 = 0 then (f_X12_error μ (1 : Int32)).bind fun q8 => (some (q8.1, q8.2)) else (f_X12_stands μ x1).bind fun q4 => ((if q4.2 = 0 then (f_X12_lays1 q4.1 x1 (3 : Int32) x2).bind fun q5 => ((f_X12_lays1 q5 x1 (4 : Int32) (-1 : Int32)).bind fun q6 => (some (q6, (1 : Int32)))) else (f_X12_error q4.1 (3 : Int32)).bind fun q7 => (some (q7.1, q7.2))))))))
set_option maxHeartbeats 4000000 in
set_option maxRecDepth 20000 in
theorem c_X12_again (E : Ev) (h : Nat → Nat) (g : Nat → Option Nat) {μ : Mem} {x1 : Int32} {x2 : Int32} {r : (Mem × Int32)} (hf : f_X12_again μ x1 x2 = some r) : Ct E yX12_again cX12_again 3 (some .int) (rmOf 2 43) (wM E h g μ) (wM E h g r.1) [.ref (h 0), .int x1, .int x2] (some (.int r.2)) := by
  refine ct_start RX12 0 (by decide) rfl (Nat.le_of_ble_eq_true rfl) ?_
  intro p l e s m args below meth c A Q X hr hlk hQ
  rw [f_X12_again] at hf
  refine j_iload_n X dX12_again_0 rfl rfl ?_
  obtain ⟨q1, g_q1, hf⟩ := ob_t hf
  refine j_callS X [] (c_X12_isOne E g_q1) rfl rfl rfl (ws' := (wM E h g μ)) rfl k_1049 k_1050 k_80 k_1051 (⟨rfl, rfl⟩) hdS_X12_isOne ⟨Nat.le_of_ble_eq_true rfl, Nat.le_of_ble_eq_true rfl⟩ rfl (Nat.le_of_ble_eq_true rfl) rfl dX12_again_1 ?_
  refine j_if_eq (tgt := 18) X dX12_again_4 (by decide) (fun c_4 => ?_) (fun c_4 => ?_)
  · replace hf := (if_pos c_4).symm.trans hf
    refine j_aload_n X dX12_again_18 rfl rfl ?_
    refine j_iconst (v := (1 : Int32)) X dX12_again_19 (by decide) ?_
    obtain ⟨q2, g_q2, hf⟩ := ob_t hf
    refine j_callV X [0, 1, 2, 3, 4, 5, 6, 7, 8, 9, 10, 11, 12, 13] 0 (c_X12_error E h g g_q2) (cut_wM_wM_c ..) rfl rfl (ws' := (wM E h g q2.1)) (cut_wM_wM_w ..) (wM_0 ..) rfl k_987 k_989 k_24 k_80 k_990 (⟨rfl, rfl⟩) hdV_X12_error ⟨Nat.le_of_ble_eq_true rfl, Nat.le_of_ble_eq_true rfl⟩ rfl (Nat.le_of_ble_eq_true rfl) rfl dX12_again_20 ?_
    obtain rfl := Option.some.inj hf
    exact j_iret X hr hlk rfl dX12_again_23 hQ
  · replace hf := (if_neg c_4).symm.trans hf
    refine j_iload_n X dX12_again_7 rfl rfl ?_
    refine j_iconst (v := (1 : Int32)) X dX12_again_8 (by decide) ?_
    refine j_sipush (v := (999 : Int32)) X dX12_again_9 (by decide) ?_
    obtain ⟨q3, g_q3, hf⟩ := ob_t hf
    refine j_callS X [] (c_X12_in E g_q3) rfl rfl rfl (ws' := (wM E h g μ)) rfl k_984 k_985 k_80 k_986 (⟨rfl, rfl⟩) hdS_X12_in ⟨Nat.le_of_ble_eq_true rfl, Nat.le_of_ble_eq_true rfl⟩ rfl (Nat.le_of_ble_eq_true rfl) rfl dX12_again_12 ?_
    refine j_if_ne (tgt := 24) X dX12_again_15 (by decide) (fun c_15 => ?_) (fun c_15 => ?_)
    · replace hf := (if_neg c_15).symm.trans hf
      refine j_aload_n X dX12_again_24 rfl rfl ?_
      refine j_iload_n X dX12_again_25 rfl rfl ?_
      obtain ⟨q4, g_q4, hf⟩ := ob_t hf
      refine j_callV X [0, 1, 2, 3, 4, 5, 6, 7, 8, 9, 10, 11, 12, 13] 0 (c_X12_stands E h g g_q4) (cut_wM_wM_c ..) rfl rfl (ws' := (wM E h g q4.1)) (cut_wM_wM_w ..) (wM_0 ..) rfl k_1093 k_1095 k_41 k_80 k_1096 (⟨rfl, rfl⟩) hdV_X12_stands ⟨Nat.le_of_ble_eq_true rfl, Nat.le_of_ble_eq_true rfl⟩ rfl (Nat.le_of_ble_eq_true rfl) rfl dX12_again_26 ?_
      refine j_if_eq (tgt := 38) X dX12_again_29 (by decide) (fun c_29 => ?_) (fun c_29 => ?_)
      · replace hf := (if_pos c_29).symm.trans hf
        refine j_aload_n X dX12_again_38 rfl rfl ?_
        refine j_iload_n X dX12_again_39 rfl rfl ?_
        refine j_iconst (v := (3 : Int32)) X dX12_again_40 (by decide) ?_
        refine j_iload_n X dX12_again_41 rfl rfl ?_
        obtain ⟨q5, g_q5, hf⟩ := ob_t hf
        refine j_callV X [0, 1, 2, 3, 4, 5, 6, 7, 8, 9, 10, 11, 12, 13] 0 (c_X12_lays1 E h g g_q5) (cut_wM_wM_c ..) rfl rfl (ws' := (wM E h g q5)) (cut_wM_wM_w ..) (wM_0 ..) rfl k_912 k_914 k_23 k_80 k_915 (⟨rfl, rfl⟩) hdV_X12_lays1 ⟨Nat.le_of_ble_eq_true rfl, Nat.le_of_ble_eq_true rfl⟩ rfl (Nat.le_of_ble_eq_true rfl) rfl dX12_again_42 ?_
        refine j_aload_n X dX12_again_45 rfl rfl ?_
        refine j_iload_n X dX12_again_46 rfl rfl ?_
        refine j_iconst (v := (4 : Int32)) X dX12_again_47 (by decide) ?_
        refine j_iconst (v := (-1 : Int32)) X dX12_again_48 (by decide) ?_
        obtain ⟨q6, g_q6, hf⟩ := ob_t hf
        refine j_callV X [0, 1, 2, 3, 4, 5, 6, 7, 8, 9, 10, 11, 12, 13] 0 (c_X12_lays1 E h g g_q6) (cut_wM_wM_c ..) rfl rfl (ws' := (wM E h g q6)) (cut_wM_wM_w ..) (wM_0 ..) rfl k_912 k_914 k_23 k_80 k_915 (⟨rfl, rfl⟩) hdV_X12_lays1 ⟨Nat.le_of_ble_eq_true rfl, Nat.le_of_ble_eq_true rfl⟩ rfl (Nat.le_of_ble_eq_true rfl) rfl dX12_again_49 ?_
        refine j_iconst (v := (1 : Int32)) X dX12_again_52 (by decide) ?_
        obtain rfl := Option.some.inj hf
        exact j_iret X hr hlk rfl dX12_again_53 hQ
      · replace hf := (if_neg c_29).symm.trans hf
        refine j_aload_n X dX12_again_32 rfl rfl ?_
        refine j_iconst (v := (3 : Int32)) X dX12_again_33 (by decide) ?_
        obtain ⟨q7, g_q7, hf⟩ := ob_t hf
        refine j_callV X [0, 1, 2, 3, 4, 5, 6, 7, 8, 9, 10, 11, 12, 13] 0 (c_X12_error E h g g_q7) (cut_wM_wM_c ..) rfl rfl (ws' := (wM E h g q7.1)) (cut_wM_wM_w ..) (wM_0 ..) rfl k_987 k_989 k_24 k_80 k_990 (⟨rfl, rfl⟩) hdV_X12_error ⟨Nat.le_of_ble_eq_true rfl, Nat.le_of_ble_eq_true rfl⟩ rfl (Nat.le_of_ble_eq_true rfl) rfl dX12_again_34 ?_
        obtain rfl := Option.some.inj hf
        exact j_iret X hr hlk rfl dX12_again_37 hQ
    · replace hf := (if_pos c_15).symm.trans hf
      refine j_aload_n X dX12_again_18 rfl rfl ?_
      refine j_iconst (v := (1 : Int32)) X dX12_again_19 (by decide) ?_
      obtain ⟨q8, g_q8, hf⟩ := ob_t hf
      refine j_callV X [0, 1, 2, 3, 4, 5, 6, 7, 8, 9, 10, 11, 12, 13] 0 (c_X12_error E h g g_q8) (cut_wM_wM_c ..) rfl rfl (ws' := (wM E h g q8.1)) (cut_wM_wM_w ..) (wM_0 ..) rfl k_987 k_989 k_24 k_80 k_990 (⟨rfl, rfl⟩) hdV_X12_error ⟨Nat.le_of_ble_eq_true rfl, Nat.le_of_ble_eq_true rfl⟩ rfl (Nat.le_of_ble_eq_true rfl) rfl dX12_again_20 ?_
      obtain rfl := Option.some.inj hf
      exact j_iret X hr hlk rfl dX12_again_23 hQ
def f_X12_sun (μ : Mem) (x1 : Int32) : Option (Mem × Int32) := (f_X12_in x1 (0 : Int32) (9 : Int32)).bind fun q1 => ((if q1 = 0 then (f_X12_error μ (1 : Int32)).bind fun q2 => (some (q2.1, q2.2)) else (f_X12_change1 μ (1 : Int32) x1).bind fun q3 => (some (q3.1, q3.2))))
set_option maxHeartbeats 4000000 in
set_option maxRecDepth 20000 in
theorem c_X12_sun (E : Ev) (h : Nat → Nat) (g : Nat → Option Nat) {μ : Mem} {x1 : Int32} {r : (Mem × Int32)} (hf : f_X12_sun μ x1 = some r) : Ct E yX12_sun cX12_sun 2 (some .int) (rmOf 1 23) (wM E h g μ) (wM E h g r.1) [.ref (h 0), .int x1] (some (.int r.2)) := by
  refine ct_start RX12 0 (by decide) rfl (Nat.le_of_ble_eq_true rfl) ?_
  intro p l e s m args below meth c A Q X hr hlk hQ
  rw [f_X12_sun] at hf
  refine j_iload_n X dX12_sun_0 rfl rfl ?_
  refine j_iconst (v := (0 : Int32)) X dX12_sun_1 (by decide) ?_
  refine j_bipush (v := (9 : Int32)) X dX12_sun_2 (by decide) ?_
  obtain ⟨q1, g_q1, hf⟩ := ob_t hf
  refine j_callS X [] (c_X12_in E g_q1) rfl rfl rfl (ws' := (wM E h g μ)) rfl k_984 k_985 k_80 k_986 (⟨rfl, rfl⟩) hdS_X12_in ⟨Nat.le_of_ble_eq_true rfl, Nat.le_of_ble_eq_true rfl⟩ rfl (Nat.le_of_ble_eq_true rfl) rfl dX12_sun_4 ?_
  refine j_if_eq (tgt := 19) X dX12_sun_7 (by decide) (fun c_7 => ?_) (fun c_7 => ?_)
  · replace hf := (if_pos c_7).symm.trans hf
    refine j_aload_n X dX12_sun_19 rfl rfl ?_
    refine j_iconst (v := (1 : Int32)) X dX12_sun_20 (by decide) ?_
    obtain ⟨q2, g_q2, hf⟩ := ob_t hf
    refine j_callV X [0, 1, 2, 3, 4, 5, 6, 7, 8, 9, 10, 11, 12, 13] 0 (c_X12_error E h g g_q2) (cut_wM_wM_c ..) rfl rfl (ws' := (wM E h g q2.1)) (cut_wM_wM_w ..) (wM_0 ..) rfl k_987 k_989 k_24 k_80 k_990 (⟨rfl, rfl⟩) hdV_X12_error ⟨Nat.le_of_ble_eq_true rfl, Nat.le_of_ble_eq_true rfl⟩ rfl (Nat.le_of_ble_eq_true rfl) rfl dX12_sun_21 ?_
    obtain rfl := Option.some.inj hf
    exact j_iret X hr hlk rfl dX12_sun_24 hQ
  · replace hf := (if_neg c_7).symm.trans hf
    refine j_aload_n X dX12_sun_10 rfl rfl ?_
    refine j_iconst (v := (1 : Int32)) X dX12_sun_11 (by decide) ?_
    refine j_iload_n X dX12_sun_12 rfl rfl ?_
    obtain ⟨q3, g_q3, hf⟩ := ob_t hf
    refine j_callV X [0, 1, 2, 3, 4, 5, 6, 7, 8, 9, 10, 11, 12, 13] 0 (c_X12_change1 E h g g_q3) (cut_wM_wM_c ..) rfl rfl (ws' := (wM E h g q3.1)) (cut_wM_wM_w ..) (wM_0 ..) rfl k_1129 k_1131 k_47 k_80 k_1132 (⟨rfl, rfl⟩) hdV_X12_change1 ⟨Nat.le_of_ble_eq_true rfl, Nat.le_of_ble_eq_true rfl⟩ rfl (Nat.le_of_ble_eq_true rfl) rfl dX12_sun_13 ?_
    refine j_goto (tgt := 24) X dX12_sun_16 (by decide) ?_
    obtain rfl := Option.some.inj hf
    exact j_iret X hr hlk rfl dX12_sun_24 hQ
def f_X12_at (μ : Mem) (x1 : Int32) : Option (Mem × Int32) := (f_X12_isOne x1).bind fun q1 => ((if q1 = 0 then (f_X12_error μ (1 : Int32)).bind fun q2 => (some (q2.1, q2.2)) else (f_X12_standsAt μ x1).bind fun q3 => (some (q3.1, q3.2))))
set_option maxHeartbeats 4000000 in
set_option maxRecDepth 20000 in
theorem c_X12_at (E : Ev) (h : Nat → Nat) (g : Nat → Option Nat) {μ : Mem} {x1 : Int32} {r : (Mem × Int32)} (hf : f_X12_at μ x1 = some r) : Ct E yX12_at cX12_at 2 (some .int) (rmOf 2 44) (wM E h g μ) (wM E h g r.1) [.ref (h 0), .int x1] (some (.int r.2)) := by
  refine ct_start RX12 0 (by decide) rfl (Nat.le_of_ble_eq_true rfl) ?_
  intro p l e s m args below meth c A Q X hr hlk hQ
  rw [f_X12_at] at hf
  refine j_iload_n X dX12_at_0 rfl rfl ?_
  obtain ⟨q1, g_q1, hf⟩ := ob_t hf
  refine j_callS X [] (c_X12_isOne E g_q1) rfl rfl rfl (ws' := (wM E h g μ)) rfl k_1049 k_1050 k_80 k_1051 (⟨rfl, rfl⟩) hdS_X12_isOne ⟨Nat.le_of_ble_eq_true rfl, Nat.le_of_ble_eq_true rfl⟩ rfl (Nat.le_of_ble_eq_true rfl) rfl dX12_at_1 ?_
  refine j_if_eq (tgt := 15) X dX12_at_4 (by decide) (fun c_4 => ?_) (fun c_4 => ?_)
  · replace hf := (if_pos c_4).symm.trans hf
    refine j_aload_n X dX12_at_15 rfl rfl ?_
    refine j_iconst (v := (1 : Int32)) X dX12_at_16 (by decide) ?_
    obtain ⟨q2, g_q2, hf⟩ := ob_t hf
    refine j_callV X [0, 1, 2, 3, 4, 5, 6, 7, 8, 9, 10, 11, 12, 13] 0 (c_X12_error E h g g_q2) (cut_wM_wM_c ..) rfl rfl (ws' := (wM E h g q2.1)) (cut_wM_wM_w ..) (wM_0 ..) rfl k_987 k_989 k_24 k_80 k_990 (⟨rfl, rfl⟩) hdV_X12_error ⟨Nat.le_of_ble_eq_true rfl, Nat.le_of_ble_eq_true rfl⟩ rfl (Nat.le_of_ble_eq_true rfl) rfl dX12_at_17 ?_
    obtain rfl := Option.some.inj hf
    exact j_iret X hr hlk rfl dX12_at_20 hQ
  · replace hf := (if_neg c_4).symm.trans hf
    refine j_aload_n X dX12_at_7 rfl rfl ?_
    refine j_iload_n X dX12_at_8 rfl rfl ?_
    obtain ⟨q3, g_q3, hf⟩ := ob_t hf
    refine j_callV X [0, 1, 2, 3, 4, 5, 6, 7, 8, 9, 10, 11, 12, 13] 0 (c_X12_standsAt E h g g_q3) (cut_wM_wM_c ..) rfl rfl (ws' := (wM E h g q3.1)) (cut_wM_wM_w ..) (wM_0 ..) rfl k_1137 k_1139 k_48 k_80 k_1140 (⟨rfl, rfl⟩) hdV_X12_standsAt ⟨Nat.le_of_ble_eq_true rfl, Nat.le_of_ble_eq_true rfl⟩ rfl (Nat.le_of_ble_eq_true rfl) rfl dX12_at_9 ?_
    refine j_goto (tgt := 20) X dX12_at_12 (by decide) ?_
    obtain rfl := Option.some.inj hf
    exact j_iret X hr hlk rfl dX12_at_20 hQ
def f_X12_minutes_L34 (μ : Mem) (x1 : Int32) (t0 : Int32) : Option (Mem × Int32) := (if t0 ≤ 0 then (f_X12_go μ x1).bind fun q3 => (some (q3.1, q3.2)) else (f_X12_error μ t0).bind fun q4 => (some (q4.1, q4.2)))
def f_X12_minutes (μ : Mem) (x1 : Int32) : Option (Mem × Int32) := (f_X12_in x1 (1 : Int32) (200 : Int32)).bind fun q1 => ((if q1 = 0 then f_X12_minutes_L34 μ x1 (1 : Int32) else (if inb (0 : Int32) 387 = true then (if ((μ 1 (0 : Int32).toNatClampNeg) + x1) ≤ (9999 : Int32) then f_X12_minutes_L34 μ x1 (0 : Int32) else f_X12_minutes_L34 μ x1 (3 : Int32)) else none)))
set_option maxHeartbeats 4000000 in
set_option maxRecDepth 20000 in
theorem c_X12_minutes (E : Ev) (h : Nat → Nat) (g : Nat → Option Nat) {μ : Mem} {x1 : Int32} {r : (Mem × Int32)} (hf : f_X12_minutes μ x1 = some r) : Ct E yX12_minutes cX12_minutes 3 (some .int) (rmOf 7 160) (wM E h g μ) (wM E h g r.1) [.ref (h 0), .int x1] (some (.int r.2)) := by
  refine ct_start RX12 1 (by decide) rfl (Nat.le_of_ble_eq_true rfl) ?_
  intro p l e s m args below meth c A Q X hr hlk hQ
  have lab34 : ∀ (μ : Mem) (x1 : Int32) (t0 : Int32), f_X12_minutes_L34 μ x1 t0 = some r → J p l e (rmOf 7 160) s m args below meth c E A 3 Q (wM E h g μ) [some (.ref (h 0)), some (.int x1), none] 34 [.int t0] := by
    intro  μ x1 t0 hf
    rw [f_X12_minutes_L34] at hf
    refine j_istore_n2 X dX12_minutes_34 rfl (by decide) rfl ?_
    refine j_iload_n X dX12_minutes_35 rfl rfl ?_
    refine j_if_le (tgt := 47) X dX12_minutes_36 (by decide) (fun c_36 => ?_) (fun c_36 => ?_)
    · replace hf := (if_pos c_36).symm.trans hf
      refine j_aload_n X dX12_minutes_47 rfl rfl ?_
      refine j_iload_n X dX12_minutes_48 rfl rfl ?_
      obtain ⟨q3, g_q3, hf⟩ := ob_t hf
      refine j_callV X [0, 1, 2, 3, 4, 5, 6, 7, 8, 9, 10, 11, 12, 13] 0 (c_X12_go E h g g_q3) (cut_wM_wM_c ..) rfl rfl (ws' := (wM E h g q3.1)) (cut_wM_wM_w ..) (wM_0 ..) rfl k_1145 k_1147 k_49 k_80 k_1148 (⟨rfl, rfl⟩) hdV_X12_go ⟨Nat.le_of_ble_eq_true rfl, Nat.le_of_ble_eq_true rfl⟩ rfl (Nat.le_of_ble_eq_true rfl) rfl dX12_minutes_49 ?_
      obtain rfl := Option.some.inj hf
      exact j_iret X hr hlk rfl dX12_minutes_52 hQ
    · replace hf := (if_neg c_36).symm.trans hf
      refine j_aload_n X dX12_minutes_39 rfl rfl ?_
      refine j_iload_n X dX12_minutes_40 rfl rfl ?_
      obtain ⟨q4, g_q4, hf⟩ := ob_t hf
      refine j_callV X [0, 1, 2, 3, 4, 5, 6, 7, 8, 9, 10, 11, 12, 13] 0 (c_X12_error E h g g_q4) (cut_wM_wM_c ..) rfl rfl (ws' := (wM E h g q4.1)) (cut_wM_wM_w ..) (wM_0 ..) rfl k_987 k_989 k_24 k_80 k_990 (⟨rfl, rfl⟩) hdV_X12_error ⟨Nat.le_of_ble_eq_true rfl, Nat.le_of_ble_eq_true rfl⟩ rfl (Nat.le_of_ble_eq_true rfl) rfl dX12_minutes_41 ?_
      refine j_goto (tgt := 52) X dX12_minutes_44 (by decide) ?_
      obtain rfl := Option.some.inj hf
      exact j_iret X hr hlk rfl dX12_minutes_52 hQ
  rw [f_X12_minutes] at hf
  refine j_iload_n X dX12_minutes_0 rfl rfl ?_
  refine j_iconst (v := (1 : Int32)) X dX12_minutes_1 (by decide) ?_
  refine j_sipush (v := (200 : Int32)) X dX12_minutes_2 (by decide) ?_
  obtain ⟨q1, g_q1, hf⟩ := ob_t hf
  refine j_callS X [] (c_X12_in E g_q1) rfl rfl rfl (ws' := (wM E h g μ)) rfl k_984 k_985 k_80 k_986 (⟨rfl, rfl⟩) hdS_X12_in ⟨Nat.le_of_ble_eq_true rfl, Nat.le_of_ble_eq_true rfl⟩ rfl (Nat.le_of_ble_eq_true rfl) rfl dX12_minutes_5 ?_
  refine j_if_ne (tgt := 15) X dX12_minutes_8 (by decide) (fun c_8 => ?_) (fun c_8 => ?_)
  · replace hf := (if_neg c_8).symm.trans hf
    refine j_aload_n X dX12_minutes_15 rfl rfl ?_
    refine j_get (C := RX12) (T := TX12) (N := 21) X iX12 0 (wM_0 ..) rfl 0 (by decide) k_916 rfl rfl dX12_minutes_16 ?_
    refine j_iconst (v := (0 : Int32)) X dX12_minutes_19 (by decide) ?_
    obtain ⟨c2, hf⟩ := oi_in hf
    refine j_iald X 1 (wM_1 ..) c2 dX12_minutes_20 ?_
    refine j_iload_n X dX12_minutes_21 rfl rfl ?_
    refine j_iadd X dX12_minutes_22 ?_
    refine j_sipush (v := (9999 : Int32)) X dX12_minutes_23 (by decide) ?_
    refine j_icmp_le (tgt := 33) X dX12_minutes_26 (by decide) (fun c_26 => ?_) (fun c_26 => ?_)
    · replace hf := (if_pos c_26).symm.trans hf
      refine j_iconst (v := (0 : Int32)) X dX12_minutes_33 (by decide) ?_
      refine j_keep [true, true, false] rfl ?_
      exact lab34 _ _ _ hf
    · replace hf := (if_neg c_26).symm.trans hf
      refine j_iconst (v := (3 : Int32)) X dX12_minutes_29 (by decide) ?_
      refine j_goto (tgt := 34) X dX12_minutes_30 (by decide) ?_
      refine j_keep [true, true, false] rfl ?_
      exact lab34 _ _ _ hf
  · replace hf := (if_pos c_8).symm.trans hf
    refine j_iconst (v := (1 : Int32)) X dX12_minutes_11 (by decide) ?_
    refine j_goto (tgt := 34) X dX12_minutes_12 (by decide) ?_
    refine j_keep [true, true, false] rfl ?_
    exact lab34 _ _ _ hf
def f_X12_fly (μ : Mem) (x1 : Int32) : Option (Mem × Int32) := (f_X12_isOne x1).bind fun q1 => ((if q1 = 0 then (f_X12_error μ (1 : Int32)).bind fun q2 => (some (q2.1, q2.2)) else (f_X12_flyAt μ x1).bind fun q3 => (some (q3.1, q3.2))))
set_option maxHeartbeats 4000000 in
set_option maxRecDepth 20000 in
theorem c_X12_fly (E : Ev) (h : Nat → Nat) (g : Nat → Option Nat) {μ : Mem} {x1 : Int32} {r : (Mem × Int32)} (hf : f_X12_fly μ x1 = some r) : Ct E yX12_fly cX12_fly 2 (some .int) (rmOf 6 138) (wM E h g μ) (wM E h g r.1) [.ref (h 0), .int x1] (some (.int r.2)) := by
  refine ct_start RX12 0 (by decide) rfl (Nat.le_of_ble_eq_true rfl) ?_
  intro p l e s m args below meth c A Q X hr hlk hQ
  rw [f_X12_fly] at hf
  refine j_iload_n X dX12_fly_0 rfl rfl ?_
  obtain ⟨q1, g_q1, hf⟩ := ob_t hf
  refine j_callS X [] (c_X12_isOne E g_q1) rfl rfl rfl (ws' := (wM E h g μ)) rfl k_1049 k_1050 k_80 k_1051 (⟨rfl, rfl⟩) hdS_X12_isOne ⟨Nat.le_of_ble_eq_true rfl, Nat.le_of_ble_eq_true rfl⟩ rfl (Nat.le_of_ble_eq_true rfl) rfl dX12_fly_1 ?_
  refine j_if_eq (tgt := 15) X dX12_fly_4 (by decide) (fun c_4 => ?_) (fun c_4 => ?_)
  · replace hf := (if_pos c_4).symm.trans hf
    refine j_aload_n X dX12_fly_15 rfl rfl ?_
    refine j_iconst (v := (1 : Int32)) X dX12_fly_16 (by decide) ?_
    obtain ⟨q2, g_q2, hf⟩ := ob_t hf
    refine j_callV X [0, 1, 2, 3, 4, 5, 6, 7, 8, 9, 10, 11, 12, 13] 0 (c_X12_error E h g g_q2) (cut_wM_wM_c ..) rfl rfl (ws' := (wM E h g q2.1)) (cut_wM_wM_w ..) (wM_0 ..) rfl k_987 k_989 k_24 k_80 k_990 (⟨rfl, rfl⟩) hdV_X12_error ⟨Nat.le_of_ble_eq_true rfl, Nat.le_of_ble_eq_true rfl⟩ rfl (Nat.le_of_ble_eq_true rfl) rfl dX12_fly_17 ?_
    obtain rfl := Option.some.inj hf
    exact j_iret X hr hlk rfl dX12_fly_20 hQ
  · replace hf := (if_neg c_4).symm.trans hf
    refine j_aload_n X dX12_fly_7 rfl rfl ?_
    refine j_iload_n X dX12_fly_8 rfl rfl ?_
    obtain ⟨q3, g_q3, hf⟩ := ob_t hf
    refine j_callV X [0, 1, 2, 3, 4, 5, 6, 7, 8, 9, 10, 11, 12, 13] 0 (c_X12_flyAt E h g g_q3) (cut_wM_wM_c ..) rfl rfl (ws' := (wM E h g q3.1)) (cut_wM_wM_w ..) (wM_0 ..) rfl k_1157 k_1159 k_51 k_80 k_1160 (⟨rfl, rfl⟩) hdV_X12_flyAt ⟨Nat.le_of_ble_eq_true rfl, Nat.le_of_ble_eq_true rfl⟩ rfl (Nat.le_of_ble_eq_true rfl) rfl dX12_fly_9 ?_
    refine j_goto (tgt := 20) X dX12_fly_12 (by decide) ?_
    obtain rfl := Option.some.inj hf
    exact j_iret X hr hlk rfl dX12_fly_20 hQ
def f_X12_poke_L24 (μ : Mem) (x1 : Int32) (t0 : Int32) : Option (Mem × Int32) := (if t0 ≤ 0 then (f_X12_pokes μ x1).bind fun q3 => (some (q3.1, q3.2)) else (f_X12_error μ t0).bind fun q4 => (some (q4.1, q4.2)))
def f_X12_poke (μ : Mem) (x1 : Int32) : Option (Mem × Int32) := (f_X12_isOne x1).bind fun q1 => ((if q1 = 0 then f_X12_poke_L24 μ x1 (1 : Int32) else (f_X12_stands μ x1).bind fun q2 => ((if q2.2 = 0 then f_X12_poke_L24 q2.1 x1 (3 : Int32) else f_X12_poke_L24 q2.1 x1 (0 : Int32)))))
set_option maxHeartbeats 4000000 in
set_option maxRecDepth 20000 in
theorem c_X12_poke (E : Ev) (h : Nat → Nat) (g : Nat → Option Nat) {μ : Mem} {x1 : Int32} {r : (Mem × Int32)} (hf : f_X12_poke μ x1 = some r) : Ct E yX12_poke cX12_poke 3 (some .int) (rmOf 6 137) (wM E h g μ) (wM E h g r.1) [.ref (h 0), .int x1] (some (.int r.2)) := by
  refine ct_start RX12 1 (by decide) rfl (Nat.le_of_ble_eq_true rfl) ?_
  intro p l e s m args below meth c A Q X hr hlk hQ
  have lab24 : ∀ (μ : Mem) (x1 : Int32) (t0 : Int32), f_X12_poke_L24 μ x1 t0 = some r → J p l e (rmOf 6 137) s m args below meth c E A 3 Q (wM E h g μ) [some (.ref (h 0)), some (.int x1), none] 24 [.int t0] := by
    intro  μ x1 t0 hf
    rw [f_X12_poke_L24] at hf
    refine j_istore_n2 X dX12_poke_24 rfl (by decide) rfl ?_
    refine j_iload_n X dX12_poke_25 rfl rfl ?_
    refine j_if_le (tgt := 37) X dX12_poke_26 (by decide) (fun c_26 => ?_) (fun c_26 => ?_)
    · replace hf := (if_pos c_26).symm.trans hf
      refine j_aload_n X dX12_poke_37 rfl rfl ?_
      refine j_iload_n X dX12_poke_38 rfl rfl ?_
      obtain ⟨q3, g_q3, hf⟩ := ob_t hf
      refine j_callV X [0, 1, 2, 3, 4, 5, 6, 7, 8, 9, 10, 11, 12, 13] 0 (c_X12_pokes E h g g_q3) (cut_wM_wM_c ..) rfl rfl (ws' := (wM E h g q3.1)) (cut_wM_wM_w ..) (wM_0 ..) rfl k_1165 k_1167 k_52 k_80 k_1168 (⟨rfl, rfl⟩) hdV_X12_pokes ⟨Nat.le_of_ble_eq_true rfl, Nat.le_of_ble_eq_true rfl⟩ rfl (Nat.le_of_ble_eq_true rfl) rfl dX12_poke_39 ?_
      obtain rfl := Option.some.inj hf
      exact j_iret X hr hlk rfl dX12_poke_42 hQ
    · replace hf := (if_neg c_26).symm.trans hf
      refine j_aload_n X dX12_poke_29 rfl rfl ?_
      refine j_iload_n X dX12_poke_30 rfl rfl ?_
      obtain ⟨q4, g_q4, hf⟩ := ob_t hf
      refine j_callV X [0, 1, 2, 3, 4, 5, 6, 7, 8, 9, 10, 11, 12, 13] 0 (c_X12_error E h g g_q4) (cut_wM_wM_c ..) rfl rfl (ws' := (wM E h g q4.1)) (cut_wM_wM_w ..) (wM_0 ..) rfl k_987 k_989 k_24 k_80 k_990 (⟨rfl, rfl⟩) hdV_X12_error ⟨Nat.le_of_ble_eq_true rfl, Nat.le_of_ble_eq_true rfl⟩ rfl (Nat.le_of_ble_eq_true rfl) rfl dX12_poke_31 ?_
      refine j_goto (tgt := 42) X dX12_poke_34 (by decide) ?_
      obtain rfl := Option.some.inj hf
      exact j_iret X hr hlk rfl dX12_poke_42 hQ
  rw [f_X12_poke] at hf
  refine j_iload_n X dX12_poke_0 rfl rfl ?_
  obtain ⟨q1, g_q1, hf⟩ := ob_t hf
  refine j_callS X [] (c_X12_isOne E g_q1) rfl rfl rfl (ws' := (wM E h g μ)) rfl k_1049 k_1050 k_80 k_1051 (⟨rfl, rfl⟩) hdS_X12_isOne ⟨Nat.le_of_ble_eq_true rfl, Nat.le_of_ble_eq_true rfl⟩ rfl (Nat.le_of_ble_eq_true rfl) rfl dX12_poke_1 ?_
  refine j_if_ne (tgt := 11) X dX12_poke_4 (by decide) (fun c_4 => ?_) (fun c_4 => ?_)
  · replace hf := (if_neg c_4).symm.trans hf
    refine j_aload_n X dX12_poke_11 rfl rfl ?_
    refine j_iload_n X dX12_poke_12 rfl rfl ?_
    obtain ⟨q2, g_q2, hf⟩ := ob_t hf
    refine j_callV X [0, 1, 2, 3, 4, 5, 6, 7, 8, 9, 10, 11, 12, 13] 0 (c_X12_stands E h g g_q2) (cut_wM_wM_c ..) rfl rfl (ws' := (wM E h g q2.1)) (cut_wM_wM_w ..) (wM_0 ..) rfl k_1093 k_1095 k_41 k_80 k_1096 (⟨rfl, rfl⟩) hdV_X12_stands ⟨Nat.le_of_ble_eq_true rfl, Nat.le_of_ble_eq_true rfl⟩ rfl (Nat.le_of_ble_eq_true rfl) rfl dX12_poke_13 ?_
    refine j_if_eq (tgt := 23) X dX12_poke_16 (by decide) (fun c_16 => ?_) (fun c_16 => ?_)
    · replace hf := (if_pos c_16).symm.trans hf
      refine j_iconst (v := (3 : Int32)) X dX12_poke_23 (by decide) ?_
      refine j_keep [true, true, false] rfl ?_
      exact lab24 _ _ _ hf
    · replace hf := (if_neg c_16).symm.trans hf
      refine j_iconst (v := (0 : Int32)) X dX12_poke_19 (by decide) ?_
      refine j_goto (tgt := 24) X dX12_poke_20 (by decide) ?_
      refine j_keep [true, true, false] rfl ?_
      exact lab24 _ _ _ hf
  · replace hf := (if_pos c_4).symm.trans hf
    refine j_iconst (v := (1 : Int32)) X dX12_poke_7 (by decide) ?_
    refine j_goto (tgt := 24) X dX12_poke_8 (by decide) ?_
    refine j_keep [true, true, false] rfl ?_
    exact lab24 _ _ _ hf
