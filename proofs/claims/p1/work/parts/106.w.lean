def f_X12_check_L65 (μ : Mem) (x1 : Int32) (x3 : Int32) : Option (Mem × Int32) := (f_X12_layBack μ (0 : Int32)).bind fun q7 => ((if x3 = x1 then some (q7, (0 : Int32)) else some (q7, ((1 : Int32) + x3))))
def f_X12_check_L29 : Nat → Mem → Int32 → Int32 → Option (Mem × Int32)
  | 0, _, _, _ => none
  | n + 1, μ, x1, x3 => (if x1 ≤ x3 then f_X12_check_L65 μ x1 x3 else (if (9 : Int32) ≤ x3 then f_X12_check_L65 μ x1 x3 else (if inb ((363 : Int32) + x3) 387 = true then (f_X12_its μ x3 (4 : Int32)).bind fun q9 => ((if (μ 1 ((363 : Int32) + x3).toNatClampNeg) = q9.2 then (f_X12_check_L29 n) q9.1 x1 (x3 + (1 : Int32)) else f_X12_check_L65 q9.1 x1 x3)) else none)))
def f_X12_check (μ : Mem) : Option (Mem × Int32) := (if inb (3 : Int32) 387 = true then bd (μ 1 (3 : Int32).toNatClampNeg) fun y2 => ((if inb (3 : Int32) 387 = true then bd (upA μ 1 (upd (μ 1) (3 : Int32).toNatClampNeg (0 : Int32))) fun μ4 => ((f_X12_layDown μ4 (0 : Int32)).bind fun q5 => ((f_X12_go q5 (200 : Int32)).bind fun q6 => (f_X12_check_L29 fuel0 q6.1 y2 (0 : Int32)))) else none)) else none)
set_option maxHeartbeats 4000000 in
set_option maxRecDepth 20000 in
theorem c_X12_check (E : Ev) (h : Nat → Nat) (g : Nat → Option Nat) {μ : Mem} {r : (Mem × Int32)} (hf : f_X12_check μ = some r) : Ct E yX12_check cX12_check 4 (some .int) (rmOf 7 160) (wM E h g μ) (wM E h g r.1) [.ref (h 0)] (some (.int r.2)) := by
  refine ct_start RX12 3 (by decide) rfl (Nat.le_of_ble_eq_true rfl) ?_
  intro p l e s m args below meth c A Q X hr hlk hQ
  have lab65 : ∀ (μ : Mem) (x1 : Int32) (x3 : Int32), f_X12_check_L65 μ x1 x3 = some r → J p l e (rmOf 7 160) s m args below meth c E A 4 Q (wM E h g μ) [some (.ref (h 0)), some (.int x1), none, some (.int x3)] 65 [] := by
    intro  μ x1 x3 hf
    rw [f_X12_check_L65] at hf
    refine j_aload_n X dX12_check_65 rfl rfl ?_
    refine j_iconst (v := (0 : Int32)) X dX12_check_66 (by decide) ?_
    obtain ⟨q7, g_q7, hf⟩ := ob_t hf
    refine j_callV X [0, 1, 2, 3, 4, 5, 6, 7, 8, 9, 10, 11, 12, 13] 0 (c_X12_layBack E h g g_q7) (cut_wM_wM_c ..) rfl rfl (ws' := (wM E h g q7)) (cut_wM_wM_w ..) (wM_0 ..) rfl k_1190 k_1192 k_55 k_80 k_1193 (⟨rfl, rfl⟩) hdV_X12_layBack ⟨Nat.le_of_ble_eq_true rfl, Nat.le_of_ble_eq_true rfl⟩ rfl (Nat.le_of_ble_eq_true rfl) rfl dX12_check_67 ?_
    refine j_iload_n X dX12_check_70 rfl rfl ?_
    refine j_iload_n X dX12_check_71 rfl rfl ?_
    refine j_icmp_ne (tgt := 79) X dX12_check_72 (by decide) (fun c_72 => ?_) (fun c_72 => ?_)
    · replace hf := (if_neg c_72).symm.trans hf
      refine j_iconst (v := (1 : Int32)) X dX12_check_79 (by decide) ?_
      refine j_iload_n X dX12_check_80 rfl rfl ?_
      refine j_iadd X dX12_check_81 ?_
      obtain rfl := Option.some.inj hf
      exact j_iret X hr hlk rfl dX12_check_82 hQ
    · replace hf := (if_pos c_72).symm.trans hf
      refine j_iconst (v := (0 : Int32)) X dX12_check_75 (by decide) ?_
      refine j_goto (tgt := 82) X dX12_check_76 (by decide) ?_
      obtain rfl := Option.some.inj hf
      exact j_iret X hr hlk rfl dX12_check_82 hQ
  have lab29 : ∀ (n : Nat) (μ : Mem) (x1 : Int32) (x3 : Int32), f_X12_check_L29 n μ x1 x3 = some r → J p l e (rmOf 7 160) s m args below meth c E A 4 Q (wM E h g μ) [some (.ref (h 0)), some (.int x1), none, some (.int x3)] 29 [] := by
    intro n
    induction n with
    | zero => intro μ x1 x3 hf; cases (show none = some r from hf)
    | succ n ih =>
      intro μ x1 x3 hf
      rw [f_X12_check_L29] at hf
      refine j_iload_n X dX12_check_29 rfl rfl ?_
      refine j_iload_n X dX12_check_30 rfl rfl ?_
      refine j_icmp_ge (tgt := 65) X dX12_check_31 (by decide) (fun c_31 => ?_) (fun c_31 => ?_)
      · replace hf := (if_pos c_31).symm.trans hf
        refine j_keep [true, true, false, true] rfl ?_
        exact lab65 _ _ _ hf
      · replace hf := (if_neg c_31).symm.trans hf
        refine j_iload_n X dX12_check_34 rfl rfl ?_
        refine j_bipush (v := (9 : Int32)) X dX12_check_35 (by decide) ?_
        refine j_icmp_ge (tgt := 65) X dX12_check_37 (by decide) (fun c_37 => ?_) (fun c_37 => ?_)
        · replace hf := (if_pos c_37).symm.trans hf
          refine j_keep [true, true, false, true] rfl ?_
          exact lab65 _ _ _ hf
        · replace hf := (if_neg c_37).symm.trans hf
          refine j_aload_n X dX12_check_40 rfl rfl ?_
          refine j_get (C := RX12) (T := TX12) (N := 21) X iX12 0 (wM_0 ..) rfl 0 (by decide) k_916 rfl rfl dX12_check_41 ?_
          refine j_sipush (v := (363 : Int32)) X dX12_check_44 (by decide) ?_
          refine j_iload_n X dX12_check_47 rfl rfl ?_
          refine j_iadd X dX12_check_48 ?_
          obtain ⟨c8, hf⟩ := oi_in hf
          refine j_iald X 1 (wM_1 ..) c8 dX12_check_49 ?_
          refine j_aload_n X dX12_check_50 rfl rfl ?_
          refine j_iload_n X dX12_check_51 rfl rfl ?_
          refine j_iconst (v := (4 : Int32)) X dX12_check_52 (by decide) ?_
          obtain ⟨q9, g_q9, hf⟩ := ob_t hf
          refine j_callV X [0, 1, 2, 3, 4, 5, 6, 7, 8, 9, 10, 11, 12, 13] 0 (c_X12_its E h g g_q9) (cut_wM_wM_c ..) rfl rfl (ws' := (wM E h g q9.1)) (cut_wM_wM_w ..) (wM_0 ..) rfl k_1052 k_1054 k_36 k_80 k_1055 (⟨rfl, rfl⟩) hdV_X12_its ⟨Nat.le_of_ble_eq_true rfl, Nat.le_of_ble_eq_true rfl⟩ rfl (Nat.le_of_ble_eq_true rfl) rfl dX12_check_53 ?_
          refine j_icmp_ne (tgt := 65) X dX12_check_56 (by decide) (fun c_56 => ?_) (fun c_56 => ?_)
          · replace hf := (if_neg c_56).symm.trans hf
            refine j_keep [true, true, false, true] rfl ?_
            exact lab65 _ _ _ hf
          · replace hf := (if_pos c_56).symm.trans hf
            refine j_iinc3 (k := (1 : Int32)) X dX12_check_59 (by decide) (by decide) rfl ?_
            refine j_goto (tgt := 29) X dX12_check_62 (by decide) ?_
            refine j_keep [true, true, false, true] rfl ?_
            exact ih _ _ _ hf
  rw [f_X12_check] at hf
  refine j_aload_n X dX12_check_0 rfl rfl ?_
  refine j_get (C := RX12) (T := TX12) (N := 21) X iX12 0 (wM_0 ..) rfl 0 (by decide) k_916 rfl rfl dX12_check_1 ?_
  refine j_iconst (v := (3 : Int32)) X dX12_check_4 (by decide) ?_
  obtain ⟨c1, hf⟩ := oi_in hf
  refine j_iald X 1 (wM_1 ..) c1 dX12_check_5 ?_
  obtain ⟨y2, e_y2, hf⟩ := bd_e hf
  refine j_top e_y2 ?_
  refine j_istore_n1 X dX12_check_6 rfl (by decide) rfl ?_
  refine j_aload_n X dX12_check_7 rfl rfl ?_
  refine j_get (C := RX12) (T := TX12) (N := 21) X iX12 0 (wM_0 ..) rfl 0 (by decide) k_916 rfl rfl dX12_check_8 ?_
  refine j_iconst (v := (3 : Int32)) X dX12_check_11 (by decide) ?_
  refine j_iconst (v := (0 : Int32)) X dX12_check_12 (by decide) ?_
  obtain ⟨c3, hf⟩ := oi_in hf
  obtain ⟨μ4, e_μ4, hf⟩ := bd_e hf
  refine j_iast X 1 (wM_1 ..) c3 dX12_check_13 (ws' := (wM E h g μ4)) (by rw [e_μ4]; exact wM_s1 ..) ?_
  refine j_aload_n X dX12_check_14 rfl rfl ?_
  refine j_iconst (v := (0 : Int32)) X dX12_check_15 (by decide) ?_
  obtain ⟨q5, g_q5, hf⟩ := ob_t hf
  refine j_callV X [0, 1, 2, 3, 4, 5, 6, 7, 8, 9, 10, 11, 12, 13] 0 (c_X12_layDown E h g g_q5) (cut_wM_wM_c ..) rfl rfl (ws' := (wM E h g q5)) (cut_wM_wM_w ..) (wM_0 ..) rfl k_1186 k_1188 k_54 k_80 k_1189 (⟨rfl, rfl⟩) hdV_X12_layDown ⟨Nat.le_of_ble_eq_true rfl, Nat.le_of_ble_eq_true rfl⟩ rfl (Nat.le_of_ble_eq_true rfl) rfl dX12_check_16 ?_
  refine j_aload_n X dX12_check_19 rfl rfl ?_
  refine j_sipush (v := (200 : Int32)) X dX12_check_20 (by decide) ?_
  obtain ⟨q6, g_q6, hf⟩ := ob_t hf
  refine j_callV X [0, 1, 2, 3, 4, 5, 6, 7, 8, 9, 10, 11, 12, 13] 0 (c_X12_go E h g g_q6) (cut_wM_wM_c ..) rfl rfl (ws' := (wM E h g q6.1)) (cut_wM_wM_w ..) (wM_0 ..) rfl k_1145 k_1147 k_49 k_80 k_1148 (⟨rfl, rfl⟩) hdV_X12_go ⟨Nat.le_of_ble_eq_true rfl, Nat.le_of_ble_eq_true rfl⟩ rfl (Nat.le_of_ble_eq_true rfl) rfl dX12_check_23 ?_
  refine j_istore_n2 X dX12_check_26 rfl (by decide) rfl ?_
  refine j_iconst (v := (0 : Int32)) X dX12_check_27 (by decide) ?_
  refine j_istore_n3 X dX12_check_28 rfl (by decide) rfl ?_
  refine j_keep [true, true, false, true] rfl ?_
  exact lab29 _ _ _ _ hf
def f_X12_count_L4 : Nat → Mem → Int32 → Int32 → Int32 → Option (Mem × Int32)
  | 0, _, _, _, _ => none
  | n + 1, μ, x1, x2, x3 => (if (9 : Int32) ≤ x3 then (if x1 = (0 : Int32) then (if inb (0 : Int32) 387 = true then some (μ, (μ 1 (0 : Int32).toNatClampNeg)) else none) else (if x1 = (1 : Int32) then (if inb (1 : Int32) 387 = true then some (μ, (μ 1 (1 : Int32).toNatClampNeg)) else none) else (if x1 = (2 : Int32) then (f_X12_howMany μ).bind fun q3 => (some (q3.1, q3.2)) else (if x1 = (3 : Int32) then some (μ, x2) else (if x1 = (4 : Int32) then (if inb (2 : Int32) 387 = true then some (μ, (μ 1 (2 : Int32).toNatClampNeg)) else none) else (if x1 = (5 : Int32) then (if inb (3 : Int32) 387 = true then some (μ, (μ 1 (3 : Int32).toNatClampNeg)) else none) else (if x1 = (6 : Int32) then some (μ, (μ 0 14)) else (if x1 = (7 : Int32) then (if inb (4 : Int32) 387 = true then some (μ, (μ 1 (4 : Int32).toNatClampNeg)) else none) else (f_X12_error μ (1 : Int32)).bind fun q7 => (some (q7.1, q7.2)))))))))) else (f_X12_stands μ x3).bind fun q8 => ((if q8.2 = 0 then bd (x2 + (0 : Int32)) fun y9 => ((f_X12_count_L4 n) q8.1 x1 y9 (x3 + (1 : Int32))) else (f_X12_its q8.1 x3 (3 : Int32)).bind fun q10 => (bd (x2 + q10.2) fun y11 => ((f_X12_count_L4 n) q10.1 x1 y11 (x3 + (1 : Int32)))))))
def f_X12_count (μ : Mem) (x1 : Int32) : Option (Mem × Int32) := f_X12_count_L4 fuel0 μ x1 (0 : Int32) (0 : Int32)
set_option maxHeartbeats 4000000 in
set_option maxRecDepth 20000 in
theorem c_X12_count (E : Ev) (h : Nat → Nat) (g : Nat → Option Nat) {μ : Mem} {x1 : Int32} {r : (Mem × Int32)} (hf : f_X12_count μ x1 = some r) : Ct E yX12_count cX12_count 4 (some .int) (rmOf 3 65) (wM E h g μ) (wM E h g r.1) [.ref (h 0), .int x1] (some (.int r.2)) := by
  refine ct_start RX12 2 (by decide) rfl (Nat.le_of_ble_eq_true rfl) ?_
  intro p l e s m args below meth c A Q X hr hlk hQ
  have lab4 : ∀ (n : Nat) (μ : Mem) (x1 : Int32) (x2 : Int32) (x3 : Int32), f_X12_count_L4 n μ x1 x2 x3 = some r → J p l e (rmOf 3 65) s m args below meth c E A 4 Q (wM E h g μ) [some (.ref (h 0)), some (.int x1), some (.int x2), some (.int x3)] 4 [] := by
    intro n
    induction n with
    | zero => intro μ x1 x2 x3 hf; cases (show none = some r from hf)
    | succ n ih =>
      intro μ x1 x2 x3 hf
      rw [f_X12_count_L4] at hf
      refine j_iload_n X dX12_count_4 rfl rfl ?_
      refine j_bipush (v := (9 : Int32)) X dX12_count_5 (by decide) ?_
      refine j_icmp_ge (tgt := 37) X dX12_count_7 (by decide) (fun c_7 => ?_) (fun c_7 => ?_)
      · replace hf := (if_pos c_7).symm.trans hf
        refine j_iload_n X dX12_count_37 rfl rfl ?_
        by_cases n_38_0 : x1 = (0 : Int32)
        · replace hf := (if_pos n_38_0).symm.trans hf
          refine j_tsI (k := (0 : Int32)) (tgt := 84) X n_38_0 dX12_count_38 (by decide) (by decide) rfl (by decide) ?_
          refine j_aload_n X dX12_count_84 rfl rfl ?_
          refine j_get (C := RX12) (T := TX12) (N := 21) X iX12 0 (wM_0 ..) rfl 0 (by decide) k_916 rfl rfl dX12_count_85 ?_
          refine j_iconst (v := (0 : Int32)) X dX12_count_88 (by decide) ?_
          obtain ⟨c1, hf⟩ := oi_in hf
          refine j_iald X 1 (wM_1 ..) c1 dX12_count_89 ?_
          obtain rfl := Option.some.inj hf
          exact j_iret X hr hlk rfl dX12_count_90 hQ
        · replace hf := (if_neg n_38_0).symm.trans hf
          by_cases n_38_1 : x1 = (1 : Int32)
          · replace hf := (if_pos n_38_1).symm.trans hf
            refine j_tsI (k := (1 : Int32)) (tgt := 91) X n_38_1 dX12_count_38 (by decide) (by decide) rfl (by decide) ?_
            refine j_aload_n X dX12_count_91 rfl rfl ?_
            refine j_get (C := RX12) (T := TX12) (N := 21) X iX12 0 (wM_0 ..) rfl 0 (by decide) k_916 rfl rfl dX12_count_92 ?_
            refine j_iconst (v := (1 : Int32)) X dX12_count_95 (by decide) ?_
            obtain ⟨c2, hf⟩ := oi_in hf
            refine j_iald X 1 (wM_1 ..) c2 dX12_count_96 ?_
            obtain rfl := Option.some.inj hf
            exact j_iret X hr hlk rfl dX12_count_97 hQ
          · replace hf := (if_neg n_38_1).symm.trans hf
            by_cases n_38_2 : x1 = (2 : Int32)
            · replace hf := (if_pos n_38_2).symm.trans hf
              refine j_tsI (k := (2 : Int32)) (tgt := 98) X n_38_2 dX12_count_38 (by decide) (by decide) rfl (by decide) ?_
              refine j_aload_n X dX12_count_98 rfl rfl ?_
              obtain ⟨q3, g_q3, hf⟩ := ob_t hf
              refine j_callV X [0, 1, 2, 3, 4, 5, 6, 7, 8, 9, 10, 11, 12, 13] 0 (c_X12_howMany E h g g_q3) (cut_wM_wM_c ..) rfl rfl (ws' := (wM E h g q3.1)) (cut_wM_wM_w ..) (wM_0 ..) rfl k_1198 k_1200 k_56 k_80 k_1201 (⟨rfl, rfl⟩) hdV_X12_howMany ⟨Nat.le_of_ble_eq_true rfl, Nat.le_of_ble_eq_true rfl⟩ rfl (Nat.le_of_ble_eq_true rfl) rfl dX12_count_99 ?_
              obtain rfl := Option.some.inj hf
              exact j_iret X hr hlk rfl dX12_count_102 hQ
            · replace hf := (if_neg n_38_2).symm.trans hf
              by_cases n_38_3 : x1 = (3 : Int32)
              · replace hf := (if_pos n_38_3).symm.trans hf
                refine j_tsI (k := (3 : Int32)) (tgt := 103) X n_38_3 dX12_count_38 (by decide) (by decide) rfl (by decide) ?_
                refine j_iload_n X dX12_count_103 rfl rfl ?_
                obtain rfl := Option.some.inj hf
                exact j_iret X hr hlk rfl dX12_count_104 hQ
              · replace hf := (if_neg n_38_3).symm.trans hf
                by_cases n_38_4 : x1 = (4 : Int32)
                · replace hf := (if_pos n_38_4).symm.trans hf
                  refine j_tsI (k := (4 : Int32)) (tgt := 105) X n_38_4 dX12_count_38 (by decide) (by decide) rfl (by decide) ?_
                  refine j_aload_n X dX12_count_105 rfl rfl ?_
                  refine j_get (C := RX12) (T := TX12) (N := 21) X iX12 0 (wM_0 ..) rfl 0 (by decide) k_916 rfl rfl dX12_count_106 ?_
                  refine j_iconst (v := (2 : Int32)) X dX12_count_109 (by decide) ?_
                  obtain ⟨c4, hf⟩ := oi_in hf
                  refine j_iald X 1 (wM_1 ..) c4 dX12_count_110 ?_
                  obtain rfl := Option.some.inj hf
                  exact j_iret X hr hlk rfl dX12_count_111 hQ
                · replace hf := (if_neg n_38_4).symm.trans hf
                  by_cases n_38_5 : x1 = (5 : Int32)
                  · replace hf := (if_pos n_38_5).symm.trans hf
                    refine j_tsI (k := (5 : Int32)) (tgt := 112) X n_38_5 dX12_count_38 (by decide) (by decide) rfl (by decide) ?_
                    refine j_aload_n X dX12_count_112 rfl rfl ?_
                    refine j_get (C := RX12) (T := TX12) (N := 21) X iX12 0 (wM_0 ..) rfl 0 (by decide) k_916 rfl rfl dX12_count_113 ?_
                    refine j_iconst (v := (3 : Int32)) X dX12_count_116 (by decide) ?_
                    obtain ⟨c5, hf⟩ := oi_in hf
                    refine j_iald X 1 (wM_1 ..) c5 dX12_count_117 ?_
                    obtain rfl := Option.some.inj hf
                    exact j_iret X hr hlk rfl dX12_count_118 hQ
                  · replace hf := (if_neg n_38_5).symm.trans hf
                    by_cases n_38_6 : x1 = (6 : Int32)
                    · replace hf := (if_pos n_38_6).symm.trans hf
                      refine j_tsI (k := (6 : Int32)) (tgt := 119) X n_38_6 dX12_count_38 (by decide) (by decide) rfl (by decide) ?_
                      refine j_aload_n X dX12_count_119 rfl rfl ?_
                      refine j_get (C := RX12) (T := TX12) (N := 21) X iX12 0 (wM_0 ..) rfl 14 (by decide) k_930 rfl rfl dX12_count_120 ?_
                      obtain rfl := Option.some.inj hf
                      exact j_iret X hr hlk rfl dX12_count_123 hQ
                    · replace hf := (if_neg n_38_6).symm.trans hf
                      by_cases n_38_7 : x1 = (7 : Int32)
                      · replace hf := (if_pos n_38_7).symm.trans hf
                        refine j_tsI (k := (7 : Int32)) (tgt := 124) X n_38_7 dX12_count_38 (by decide) (by decide) rfl (by decide) ?_
                        refine j_aload_n X dX12_count_124 rfl rfl ?_
                        refine j_get (C := RX12) (T := TX12) (N := 21) X iX12 0 (wM_0 ..) rfl 0 (by decide) k_916 rfl rfl dX12_count_125 ?_
                        refine j_iconst (v := (4 : Int32)) X dX12_count_128 (by decide) ?_
                        obtain ⟨c6, hf⟩ := oi_in hf
                        refine j_iald X 1 (wM_1 ..) c6 dX12_count_129 ?_
                        obtain rfl := Option.some.inj hf
                        exact j_iret X hr hlk rfl dX12_count_130 hQ
                      · replace hf := (if_neg n_38_7).symm.trans hf
                        refine j_tsD (tgt := 131) X [0, 1, 2, 3, 4, 5, 6, 7] (List.forall_mem_cons.mpr ⟨lv_neT n_38_0 (a := 0) rfl, List.forall_mem_cons.mpr ⟨lv_neT n_38_1 (a := 1) rfl, List.forall_mem_cons.mpr ⟨lv_neT n_38_2 (a := 2) rfl, List.forall_mem_cons.mpr ⟨lv_neT n_38_3 (a := 3) rfl, List.forall_mem_cons.mpr ⟨lv_neT n_38_4 (a := 4) rfl, List.forall_mem_cons.mpr ⟨lv_neT n_38_5 (a := 5) rfl, List.forall_mem_cons.mpr ⟨lv_neT n_38_6 (a := 6) rfl, List.forall_mem_cons.mpr ⟨lv_neT n_38_7 (a := 7) rfl, fun _ h => by cases h⟩⟩⟩⟩⟩⟩⟩⟩) (by decide) (by decide) dX12_count_38 (by decide) ?_
                        refine j_aload_n X dX12_count_131 rfl rfl ?_
                        refine j_iconst (v := (1 : Int32)) X dX12_count_132 (by decide) ?_
                        obtain ⟨q7, g_q7, hf⟩ := ob_t hf
                        refine j_callV X [0, 1, 2, 3, 4, 5, 6, 7, 8, 9, 10, 11, 12, 13] 0 (c_X12_error E h g g_q7) (cut_wM_wM_c ..) rfl rfl (ws' := (wM E h g q7.1)) (cut_wM_wM_w ..) (wM_0 ..) rfl k_987 k_989 k_24 k_80 k_990 (⟨rfl, rfl⟩) hdV_X12_error ⟨Nat.le_of_ble_eq_true rfl, Nat.le_of_ble_eq_true rfl⟩ rfl (Nat.le_of_ble_eq_true rfl) rfl dX12_count_133 ?_
                        obtain rfl := Option.some.inj hf
                        exact j_iret X hr hlk rfl dX12_count_136 hQ
      · replace hf := (if_neg c_7).symm.trans hf
        refine j_iload_n X dX12_count_10 rfl rfl ?_
        refine j_aload_n X dX12_count_11 rfl rfl ?_
        refine j_iload_n X dX12_count_12 rfl rfl ?_
        obtain ⟨q8, g_q8, hf⟩ := ob_t hf
        refine j_callV X [0, 1, 2, 3, 4, 5, 6, 7, 8, 9, 10, 11, 12, 13] 0 (c_X12_stands E h g g_q8) (cut_wM_wM_c ..) rfl rfl (ws' := (wM E h g q8.1)) (cut_wM_wM_w ..) (wM_0 ..) rfl k_1093 k_1095 k_41 k_80 k_1096 (⟨rfl, rfl⟩) hdV_X12_stands ⟨Nat.le_of_ble_eq_true rfl, Nat.le_of_ble_eq_true rfl⟩ rfl (Nat.le_of_ble_eq_true rfl) rfl dX12_count_13 ?_
        refine j_if_eq (tgt := 28) X dX12_count_16 (by decide) (fun c_16 => ?_) (fun c_16 => ?_)
        · replace hf := (if_pos c_16).symm.trans hf
          refine j_iconst (v := (0 : Int32)) X dX12_count_28 (by decide) ?_
          refine j_iadd X dX12_count_29 ?_
          obtain ⟨y9, e_y9, hf⟩ := bd_e hf
          refine j_top e_y9 ?_
          refine j_istore_n2 X dX12_count_30 rfl (by decide) rfl ?_
          refine j_iinc3 (k := (1 : Int32)) X dX12_count_31 (by decide) (by decide) rfl ?_
          refine j_goto (tgt := 4) X dX12_count_34 (by decide) ?_
          refine j_keep [true, true, true, true] rfl ?_
          exact ih _ _ _ _ hf
        · replace hf := (if_neg c_16).symm.trans hf
          refine j_aload_n X dX12_count_19 rfl rfl ?_
          refine j_iload_n X dX12_count_20 rfl rfl ?_
          refine j_iconst (v := (3 : Int32)) X dX12_count_21 (by decide) ?_
          obtain ⟨q10, g_q10, hf⟩ := ob_t hf
          refine j_callV X [0, 1, 2, 3, 4, 5, 6, 7, 8, 9, 10, 11, 12, 13] 0 (c_X12_its E h g g_q10) (cut_wM_wM_c ..) rfl rfl (ws' := (wM E h g q10.1)) (cut_wM_wM_w ..) (wM_0 ..) rfl k_1052 k_1054 k_36 k_80 k_1055 (⟨rfl, rfl⟩) hdV_X12_its ⟨Nat.le_of_ble_eq_true rfl, Nat.le_of_ble_eq_true rfl⟩ rfl (Nat.le_of_ble_eq_true rfl) rfl dX12_count_22 ?_
          refine j_goto (tgt := 29) X dX12_count_25 (by decide) ?_
          refine j_iadd X dX12_count_29 ?_
          obtain ⟨y11, e_y11, hf⟩ := bd_e hf
          refine j_top e_y11 ?_
          refine j_istore_n2 X dX12_count_30 rfl (by decide) rfl ?_
          refine j_iinc3 (k := (1 : Int32)) X dX12_count_31 (by decide) (by decide) rfl ?_
          refine j_goto (tgt := 4) X dX12_count_34 (by decide) ?_
          refine j_keep [true, true, true, true] rfl ?_
          exact ih _ _ _ _ hf
  rw [f_X12_count] at hf
  refine j_iconst (v := (0 : Int32)) X dX12_count_0 (by decide) ?_
  refine j_istore_n2 X dX12_count_1 rfl (by decide) rfl ?_
  refine j_iconst (v := (0 : Int32)) X dX12_count_2 (by decide) ?_
  refine j_istore_n3 X dX12_count_3 rfl (by decide) rfl ?_
  refine j_keep [true, true, true, true] rfl ?_
  exact lab4 _ _ _ _ _ hf
def f_X12_told (μ : Mem) (x1 : Int32) : Option (Mem × Int32) := (f_X12_in x1 (1 : Int32) (6 : Int32)).bind fun q1 => ((if q1 = 0 then (f_X12_error μ (1 : Int32)).bind fun q2 => (some (q2.1, q2.2)) else (if inb x1 7 = true then some (μ, (μ 4 x1.toNatClampNeg)) else none)))
set_option maxHeartbeats 4000000 in
set_option maxRecDepth 20000 in
theorem c_X12_told (E : Ev) (h : Nat → Nat) (g : Nat → Option Nat) {μ : Mem} {x1 : Int32} {r : (Mem × Int32)} (hf : f_X12_told μ x1 = some r) : Ct E yX12_told cX12_told 2 (some .int) (rmOf 1 22) (wM E h g μ) (wM E h g r.1) [.ref (h 0), .int x1] (some (.int r.2)) := by
  refine ct_start RX12 0 (by decide) rfl (Nat.le_of_ble_eq_true rfl) ?_
  intro p l e s m args below meth c A Q X hr hlk hQ
  rw [f_X12_told] at hf
  refine j_iload_n X dX12_told_0 rfl rfl ?_
  refine j_iconst (v := (1 : Int32)) X dX12_told_1 (by decide) ?_
  refine j_bipush (v := (6 : Int32)) X dX12_told_2 (by decide) ?_
  obtain ⟨q1, g_q1, hf⟩ := ob_t hf
  refine j_callS X [] (c_X12_in E g_q1) rfl rfl rfl (ws' := (wM E h g μ)) rfl k_984 k_985 k_80 k_986 (⟨rfl, rfl⟩) hdS_X12_in ⟨Nat.le_of_ble_eq_true rfl, Nat.le_of_ble_eq_true rfl⟩ rfl (Nat.le_of_ble_eq_true rfl) rfl dX12_told_4 ?_
  refine j_if_eq (tgt := 19) X dX12_told_7 (by decide) (fun c_7 => ?_) (fun c_7 => ?_)
  · replace hf := (if_pos c_7).symm.trans hf
    refine j_aload_n X dX12_told_19 rfl rfl ?_
    refine j_iconst (v := (1 : Int32)) X dX12_told_20 (by decide) ?_
    obtain ⟨q2, g_q2, hf⟩ := ob_t hf
    refine j_callV X [0, 1, 2, 3, 4, 5, 6, 7, 8, 9, 10, 11, 12, 13] 0 (c_X12_error E h g g_q2) (cut_wM_wM_c ..) rfl rfl (ws' := (wM E h g q2.1)) (cut_wM_wM_w ..) (wM_0 ..) rfl k_987 k_989 k_24 k_80 k_990 (⟨rfl, rfl⟩) hdV_X12_error ⟨Nat.le_of_ble_eq_true rfl, Nat.le_of_ble_eq_true rfl⟩ rfl (Nat.le_of_ble_eq_true rfl) rfl dX12_told_21 ?_
    obtain rfl := Option.some.inj hf
    exact j_iret X hr hlk rfl dX12_told_24 hQ
  · replace hf := (if_neg c_7).symm.trans hf
    refine j_aload_n X dX12_told_10 rfl rfl ?_
    refine j_get (C := RX12) (T := TX12) (N := 21) X iX12 0 (wM_0 ..) rfl 4 (by decide) k_920 rfl rfl dX12_told_11 ?_
    refine j_iload_n X dX12_told_14 rfl rfl ?_
    obtain ⟨c3, hf⟩ := oi_in hf
    refine j_iald X 4 (wM_4 ..) c3 dX12_told_15 ?_
    refine j_goto (tgt := 24) X dX12_told_16 (by decide) ?_
    obtain rfl := Option.some.inj hf
    exact j_iret X hr hlk rfl dX12_told_24 hQ
