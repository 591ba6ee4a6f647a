def f_X12_check_L65 (μ : Mem) (x1 : Int32) (x3 : Int32) : Option (Mem × Int32) := (f_X12_layBack μ (0 : Int32)).bind fun q7 => ((if x3 = x1 then some (q7, (0 : Int32)) else some (q7, ((1 : Int32) + x3))))
def f_X12_check_L29 : Nat → Mem → Int32 → Int32 → Option (Mem × Int32)
  | 0, _, _, _ => none
  | n + 1, μ, x1, x3 => (if x1 ≤ x3 then f_X12_check_L65 μ x1 x3 else (if (9 : Int32) ≤ x3 then f_X12_check_L65 μ x1 x3 else (if inb ((363 : Int32) + x3) 387 = true then (f_X12_its μ x3 (4 : Int32)).bind fun q9 => ((if (μ 1 ((363 : Int32) + x3).toNatClampNeg) = q9.2 then (f_X12_check_L29 n) q9.1 x1 (x3 + (1 : Int32)) else f_X12_check_L65 q9.1 x1 x3)) else none)))
def f_X12_check (μ : Mem) : Option (Mem × Int32) := (if inb (3 : Int32) 387 = true then bd (μ 1 (3 : Int32).toNatClampNeg) fun y2 => ((if inb (3 : Int32) 387 = true then bd (upA μ 1 (upd (μ 1) (3 : Int32).toNatClampNeg (0 : Int32))) fun μ4 => ((f_X12_layDown μ4 (0 : Int32)).bind fun q5 => ((f_X12_go q5 (200 : Int32)).bind fun q6 => (f_X12_check_L29 fuel0 q6.1 y2 (0 : Int32)))) else none)) else none)
set_option maxHeartbeats 4000000 in
set_option maxRecDepth 20000 in
theorem c_X12_check (E : Ev) (h : Nat → Nat) (g : Nat → Option Nat) {μ : Mem} {r : (Mem × Int32)} (hf : f_X12_check μ = some r) : Ct E yX12_check cX12_check 4 (some .int) (rmOf 7 160) (wM E h g μ) (wM E h g r.1) [.ref (h 0)] (some (.int r.2)) := by
  refine ct_start RX12 3 (by decide) rfl (Nat.le_of_ble_eq_true rfl) ?_
  intro p l e s m args below meth c A Q X hr hlk hQ
  have lab65 : ∀ (μ : Mem) (x1 : Int32) (x3 : Int32), f_X12_check_L65 μ x1 x3 = some r → J p l e (rmOf 7 160) s m args below meth c E A 4 Q (wM E h g μ) [some (.ref (h 0)), some (.int x1), none, some (.int x3)] 65 [] := by
    intro  μ x1 x3 hf
    rw [f_X12_check_L65] at hf
    refine j_aload_n X dX12_check_65 rfl rfl ?_
    refine j_iconst (v := (0 : Int32)) X dX12_check_66 (by decide) ?_
    obtain ⟨q7, g_q7, hf⟩ := ob_t hf
    refine j_callV X [0, 1, 2, 3, 4, 5, 6, 7, 8, 9, 10, 11, 12, 13] 0 (c_X12_layBack E h g g_q7) (cut_wM_wM_c ..) rfl rfl (ws' := (wM E h g q7)) (cut_wM_wM_w ..) (wM_0 ..) rfl k_1190 k_1192 k_55 k_80 k_1193 (⟨rfl, rfl⟩) hdV_X12_layBack ⟨Nat.le_of_ble_eq_true rfl, Nat.le_of_ble_eq_true rfl⟩ rfl (Nat.le_of_ble_eq_true rfl) rfl dX12_check_67 ?_
    refine j_iload_n X dX12_check_70 rfl rfl ?_
    refine j_iload_n X dX12_check_71 rfl rfl ?_
    refine j_icmp_ne (tgt := 79) X dX12_check_72 (by decide) (fun c_72 => ?_) (fun c_72 => ?_)
    · replace hf := (if_neg c_72).symm.trans hf
      refine j_iconst (v := (1 : Int32)) X dX12_check_79 (by decide) ?_
      refine j_iload_n X dX12_check_80 rfl rfl ?_
      refine j_iadd X dX12_check_81 ?_
      obtain rfl := Option.some.inj hf
      exact j_iret X hr hlk rfl dX12_check_82 hQ
    · replace hf := (if_pos c_72).symm.trans hf
      refine j_iconst (v := (0 : Int32)) X dX12_check_75 (by decide) ?_
      refine j_goto (tgt := 82) X dX12_check_76 (by decide) ?_
      obtain rfl := Option.some.inj hf
      exact j_iret X hr hlk rfl dX12_check_82 hQ
  have lab29 : ∀ (n : Nat) (μ : Mem) (x1 : Int32) (x3 : Int32), f_X12_check_L29 n μ x1 x3 = some r → J p l e (rmOf 7 160) s m args below meth c E A 4 Q (wM E h g μ) [some (.ref (h 0)), some (.int x1), none, some (.int x3)] 29 [] := by
    intro n
    induction n with
    | zero => intro μ x1 x3 hf; cases (show none = some r from hf)
    | succ n ih =>
      intro μ x1 x3 hf
      rw [f_X12_check_L29] at hf
      refine j_iload_n X dX12_check_29 rfl rfl ?_
      refine j_iload_n X dX12_check_30 rfl rfl ?_
      refine j_icmp_ge (tgt := 65) X dX12_check_31 (by decide) (fun c_31 => ?_) (fun c_31 => ?_)
      · replace hf := (if_pos c_31).symm.trans hf
        refine j_keep [true, true, false, true] rfl ?_
        exact lab65 _ _ _ hf
      · replace hf := (if_neg c_31).symm.trans hf
        refine j_iload_n X dX12_check_34 rfl rfl ?_
        refine j_bipush (v := (9 : Int32)) X dX12_check_35 (by decide) ?_
        refine j_icmp_ge (tgt := 65) X dX12_check_37 (by decide) (fun c_37 => ?_) (fun c_37 => ?_)
        · replace hf := (if_pos c_37).symm.trans hf
          refine j_keep [true, true, false, true] rfl ?_
          exact lab65 _ _ _ hf
        · replace hf := (if_neg c_37).symm.trans hf
          refine j_aload_n X dX12_check_40 rfl rfl ?_
          refine j_get (C := RX12) (T := TX12) (N := 21) X iX12 0 (wM_0 ..) rfl 0 (by decide) k_916 rfl rfl dX12_check_41 ?_
          refine j_sipush (v := (363 : Int32)) X dX12_check_44 (by decide) ?_
          refine j_iload_n X dX12_check_47 rfl rfl ?_
          refine j_iadd X dX12_check_48 ?_
          obtain ⟨c8, hf⟩ := oi_in hf
          refine j_iald X 1 (wM_1 ..) c8 dX12_check_49 ?_
          refine j_aload_n X dX12_check_50 rfl rfl ?_
          refine j_iload_n X dX12_check_51 rfl rfl ?_
          refine j_iconst (v := (4 : Int32)) X dX12_check_52 (by decide) ?_
          obtain ⟨q9, g_q9, hf⟩ := ob_t hf
          refine j_callV X [0, 1, 2, 3, 4, 5, 6, 7, 8, 9, 10, 11, 12, 13] 0 (c_X12_its E h g g_q9) (cut_wM_wM_c ..) rfl rfl (ws' := (wM E h g q9.1)) (cut_wM_wM_w ..) (wM_0 ..) rfl k_1052 k_1054 k_36 k_80 k_1055 (⟨rfl, rfl⟩) hdV_X12_its ⟨Nat.le_of_ble_eq_true rfl, Nat.le_of_ble_eq_true rfl⟩ rfl (Nat.le_of_ble_eq_true rfl) rfl dX12_check_53 ?_
          refine j_icmp_ne (tgt := 65) X dX12_check_56 (by decide) (fun c_56 => ?_) (fun c_56 => ?_)
          · replace hf := (if_neg c_56).symm.trans hf
            refine j_keep [true, true, false, true] rfl ?_
            exact lab65 _ _ _ hf
          · replace hf := (if_pos c_56).symm.trans hf
            refine j_iinc3 (k := (1 : Int32)) X dX12_check_59 (by decide) (by decide) rfl ?_
            refine j_goto (tgt := 29) X dX12_check_62 (by decide) ?_
            refine j_keep [true, true, false, true] rfl ?_
            exact ih _ _ _ hf
  rw [f_X12_check] at hf
  refine j_aload_n X dX12_check_0 rfl rfl ?_
  refine j_get (C := RX12) (T := TX12) (N := 21) X iX12 0 (wM_0 ..) rfl 0 (by decide) k_916 rfl rfl dX12_check_1 ?_
  refine j_iconst (v := (3 : Int32)) X dX12_check_4 (by decide) ?_
  obtain ⟨c1, hf⟩ := oi_in hf
  refine j_iald X 1 (wM_1 ..) c1 dX12_check_5 ?_
  obtain ⟨y2, e_y2, hf⟩ := bd_e hf
  refine j_top e_y2 ?_
  refine j_istore_n1 X dX12_check_6 rfl (by decide) rfl ?_
  refine j_aload_n X dX12_check_7 rfl rfl ?_
  refine j_get (C := RX12) (T := TX12) (N := 21) X iX12 0 (wM_0 ..) rfl 0 (by decide) k_916 rfl rfl dX12_check_8 ?_
  refine j_iconst (v := (3 : Int32)) X dX12_check_11 (by decide) ?_
  refine j_iconst (v := (0 : Int32)) X dX12_check_12 (by decide) ?_
  obtain ⟨c3, hf⟩ := oi_in hf
  obtain ⟨μ4, e_μ4, hf⟩ := bd_e hf
  refine j_iast X 1 (wM_1 ..) c3 dX12_check_13 (ws' := (wM E h g μ4)) (by rw [e_μ4]; exact wM_s1 ..) ?_
  refine j_aload_n X dX12_check_14 rfl rfl ?_
  refine j_iconst (v := (0 : Int32)) X dX12_check_15 (by decide) ?_
  obtain ⟨q5, g_q5, hf⟩ := ob_t hf
  refine j_callV X [0, 1, 2, 3, 4, 5, 6, 7, 8, 9, 10, 11, 12, 13] 0 (c_X12_layDown E h g g_q5) (cut_wM_wM_c ..) rfl rfl (ws' := (wM E h g q5)) (cut_wM_wM_w ..) (wM_0 ..) rfl k_1186 k_1188 k_54 k_80 k_1189 (⟨rfl, rfl⟩) hdV_X12_layDown ⟨Nat.le_of_ble_eq_true rfl, Nat.le_of_ble_eq_true rfl⟩ rfl (Nat.le_of_ble_eq_true rfl) rfl dX12_check_16 ?_
  refine j_aload_n X dX12_check_19 rfl rfl ?_
  refine j_sipush (v := (200 : Int32)) X dX12_check_20 (by decide) ?_
  obtain ⟨q6, g_q6, hf⟩ := ob_t hf
  refine j_callV X [0, 1, 2, 3, 4, 5, 6, 7, 8, 9, 10, 11, 12, 13] 0 (c_X12_go E h g g_q6) (cut_wM_wM_c ..) rfl rfl (ws' := (wM E h g q6.1)) (cut_wM_wM_w ..) (wM_0 ..) rfl k_1145 k_1147 k_49 k_80 k_1148 (⟨rfl, rfl⟩) hdV_X12_go ⟨Nat.le_of_ble_eq_true rfl, Nat.le_of_ble_eq_true rfl⟩ rfl (Nat.le_of_ble_eq_true rfl) rfl dX12_check_23 ?_
  refine j_istore_n2 X dX12_check_26 rfl (by decide) rfl ?_
  refine j_iconst (v := (0 : Int32)) X dX12_check_27 (by decide) ?_
  refine j_istore_n3 X dX12_check_28 rfl (by decide) rfl ?_
  refine j_keep [true, true, false, true] rfl ?_
  exact lab29 _ _ _ _ hf
def f_X12_count_L4 : Nat → Mem → Int32 → Int32 → Int32 → Option (Mem × Int32)
  | 0, _, _, _, _ => none
  | n + 1, μ, x1, x2, x3 => (if (9 : Int32) ≤ x3 then (if x1 = (0 : Int32) then (if inb (0 : Int32) 387 = true then some (μ, (μ 1 (0 : Int32).toNatClampNeg)) else none) else (if x1 = (1 : Int32) then (if inb (1 : Int32) 387 = true then some (μ, (μ 1 (1 : Int32).toNatClampNeg)) else none) else (if x1 = (2 : Int32) then (f_X12_howMany μ).bind fun q3 => (some (q3.1, q3.2)) else (if x1 = (3 : Int32) then some (μ, x2) else (if x1 = (4 : Int32) then (if inb (2 : Int32) 387 = true then some (μ, (μ 1 (2 : Int32).toNatClampNeg)) else none) else (if x1 = (5 : Int32) then (if inb (3 : Int32) 387 = true then some (μ, (μ 1 (3 : Int32).toNatClampNeg)) else none) else (if x1 = (6 : Int32) then some (μ, (μ 0 14)) else (if x1 = (7 : Int32) then (if inb (4 : Int32) 387 = true then some (μ, (μ 1 (4 : Int32).toNatClampNeg)) else none) else (f_X12_error μ (1 : Int32)).bind fun q7 => (some (q7.1, q7.2)))))))))) else (f_X12_stands μ x3).bind fun q8 => ((if q8.2 = 0 then bd (x2 + (0 : Int32)) fun y9 => ((f_X12_count_L4 n) q8.1 x1 y9 (x3 + (1 : Int32))) else (f_X12_its q8.1 x3 (3 : Int32)).bind fun q10 => (bd (x2 + q10.2) fun y11 => ((f_X12_count_L4 n) q10.1 x1 y11 (x3 + (1 : Int32)))))))
def f_X12_count (μ : Mem) (x1 : Int32) : Option (Mem × Int32) := f_X12_count_L4 fuel0 μ x1 (0 : Int32) (0 : Int32)
set_option maxHeartbeats 4000000 in
set_option maxRecDepth 20000 in
theorem c_X12_count (E : Ev) (h : Nat → Nat) (g : Nat → Option Nat) {μ : Mem} {x1 : Int32} {r : (Mem × Int32)} (hf : f_X12_count μ x1 = some r) : Ct E yX12_count cX12_count 4 (some .int) (rmOf 3 65) (wM E h g μ) (wM E h g r.1) [.ref (h 0), .int x1] (some (.int r.2)) := by
  refine ct_start RX12 2 (by decide) rfl (Nat.le_of_ble_eq_true rfl) ?_
  intro p l e s m args below meth c A Q X hr hlk hQ
  have lab4 : ∀ (n : Nat) (μ : Mem) (x1 : Int32) (x2 : Int32) (x3 : Int32), f_X12_count_L4 n μ x1 x2 x3 = some r → J p l e (rmOf 3 65) s m args below meth c E A 4 Q (wM E h g μ) [some (.ref (h 0)), some (.int x1), some (.int x2), some (.int x3)] 4 [] := by
    intro n
    induction n with
    | zero => intro μ x1 x2 x3 hf; cases (show none = some r from hf)
    | succ n ih =>
      intro μ x1 x2 x3 hf
      rw [f_X12_count_L4] at hf
      refine j_iload_n X dX12_count_4 rfl rfl ?_
      refine j_bipush (v := (9 : Int32)) X dX12_count_5 (by decide) ?_
      refine j_icmp_ge (tgt := 37) X dX12_count_7 (by decide) (fun c_7 => ?_) (fun c_7 => ?_)
      · replace hf := (if_pos c_7).symm.trans hf
        refine j_iload_n X dX12_count_37 rfl rfl ?_
        by_cases n_38_0 : x1 = (0 : Int32)
        · replace hf := (if_pos n_38_0).symm.trans hf
          refine j_tsI (k := (0 : Int32)) (tgt := 84) X n_38_0 dX12_count_38 (by decide) (by decide) rfl (by decide) ?_
          refine j_aload_n X dX12_count_84 rfl rfl ?_
          refine j_get (C := RX12) (T := TX12) (N := 21) X iX12 0 (wM_0 ..) rfl 0 (by decide) k_916 rfl rfl dX12_count_85 ?_
          refine j_iconst (v := (0 : Int32)) X dX12_count_88 (by decide) ?_
          obtain ⟨c1, hf⟩ := oi_in hf
          refine j_iald X 1 (wM_1 ..) c1 dX12_count_89 ?_
          obtain rfl := Option.some.inj hf
          exact j_iret X hr hlk rfl dX12_count_90 hQ
        · replace hf := (if_neg n_38_0).symm.trans hf
          by_cases n_38_1 : x1 = (1 : Int32)
          · replace hf := (if_pos n_38_1).symm.trans hf
            refine j_tsI (k := (1 : Int32)) (tgt := 91) X n_38_1 dX12_count_38 (by decide) (by decide) rfl (by decide) ?_
            refine j_aload_n X dX12_count_91 rfl rfl ?_
            refine j_get (C := RX12) (T := TX12) (N := 21) X iX12 0 (wM_0 ..) rfl 0 (by decide) k_916 rfl rfl dX12_count_92 ?_
            refine j_iconst (v := (1 : Int32)) X dX12_count_95 (by decide) ?_
            obtain ⟨c2, hf⟩ := oi_in hf
            refine j_iald X 1 (wM_1 ..) c2 dX12_count_96 ?_
            obtain rfl := Option.some.inj hf
            exact j_iret X hr hlk rfl dX12_count_97 hQ
          · replace hf := (if_neg n_38_1).symm.trans hf
            by_cases n_38_2 : x1 = (2 : Int32)
            · replace hf := (if_pos n_38_2).symm.trans hf
              refine j_tsI (k := (2 : Int32)) (tgt := 98) X n_38_2 dX12_count_38 (by decide) (by decide) rfl (by decide) ?_
              refine j_aload_n X dX12_count_98 rfl rfl ?_
              obtain ⟨q3, g_q3, hf⟩ := ob_t hf
              refine j_callV X [0, 1, 2, 3, 4, 5, 6, 7, 8, 9, 10, 11, 12, 13] 0 (c_X12_howMany E h g g_q3) (cut_wM_wM_c ..) rfl rfl (ws' := (wM E h g q3.1)) (cut_wM_wM_w ..) (wM_0 ..) rfl k_1198 k_1200 k_56 k_80 k_1201 (⟨rfl, rfl⟩) hdV_X12_howMany ⟨Nat.le_of_ble_eq_true rfl, Nat.le_of_ble_eq_true rfl⟩ rfl (Nat.le_of_ble_eq_true rfl) rfl dX12_count_99 ?_
              obtain rfl := Option.some.inj hf
              exact j_iret X hr hlk rfl dX12_count_102 hQ
            · replace hf := (if_neg n_38_2).symm.trans hf
              by_cases n_38_3 : x1 = (3 : Int32)
              · replace hf := (if_pos n_38_3).symm.trans hf
                refine j_tsI (k := (3 : Int32)) (tgt := 103) X n_38_3 dX12_count_38 (by decide) (by decide) rfl (by decide) ?_
                refine j_iload_n X dX12_count_103 rfl rfl ?_
                obtain rfl := Option.some.inj hf
                exact j_iret X hr hlk rfl dX12_count_104 hQ
              · replace hf := (if_neg n_38_3).symm.trans hf
                by_cases n_38_4 : x1 = (4 : Int32)
                · replace hf := (if_pos n_38_4).symm.trans hf
                  refine j_tsI (k := (4 : Int32)) (tgt := 105) X n_38_4 dX12_count_38 (by decide) (by decide) rfl (by decide) ?_
                  refine j_aload_n X dX12_count_105 rfl rfl ?_
                  refine j_get (C := RX12) (T := TX12) (N := 21) X iX12 0 (wM_0 ..) rfl 0 (by decide) k_916 rfl rfl dX12_count_106 ?_
                  refine j_iconst (v := (2 : Int32)) X dX12_count_109 (by decide) ?_
                  obtain ⟨c4, hf⟩ := oi_in hf
                  refine j_iald X 1 (wM_1 ..) c4 dX12_count_110 ?_
                  obtain rfl := Option.some.inj hf
                  exact j_iret X hr hlk rfl dX12_count_111 hQ
                · replace hf := (if_neg n_38_4).symm.trans hf
                  by_cases n_38_5 : x1 = (5 : Int32)
                  · replace hf := (if_pos n_38_5).symm.trans hf
                    refine j_tsI (k := (5 : Int32)) (tgt := 112) X n_38_5 dX12_count_38 (by decide) (by decide) rfl (by decide) ?_
                    refine j_aload_n X dX12_count_112 rfl rfl ?_
                    refine j_get (C := RX12) (T := TX12) (N := 21) X iX12 0 (wM_0 ..) rfl 0 (by decide) k_916 rfl rfl dX12_count_113 ?_
                    refine j_iconst (v := (3 : Int32)) X dX12_count_116 (by decide) ?_
                    obtain ⟨c5, hf⟩ := oi_in hf
                    refine j_iald X 1 (wM_1 ..) c5 dX12_count_117 ?_
                    obtain rfl := Option.some.inj hf
                    exact j_iret X hr hlk rfl dX12_count_118 hQ
                  · replace hf := (if_neg n_38_5).symm.trans hf
                    by_cases n_38_6 : x1 = (6 : Int32)
                    · replace hf := (if_pos n_38_6).symm.trans hf
                      refine j_tsI (k := (6 : Int32)) (tgt := 119) X n_38_6 dX12_count_38 (by decide) (by decide) rfl (by decide) ?_
                      refine j_aload_n X dX12_count_119 rfl rfl ?_
                      refine j_get (C := RX12) (T := TX12) (N := 21) X iX12 0 (wM_0 ..) rfl 14 (by decide) k_930 rfl rfl dX12_count_120 ?_
                      obtain rfl := Option.some.inj hf
                      exact j_iret X hr hlk rfl dX12_count_123 hQ
                    · replace hf := (if_neg n_38_6).symm.trans hf
                      by_cases n_38_7 : x1 = (7 : Int32)
                      · replace hf := (if_pos n_38_7).symm.trans hf
                        refine j_tsI (k := (7 : Int32)) (tgt := 124) X n_38_7 dX12_count_38 (by decide) (by decide) rfl (by decide) ?_
                        refine j_aload_n X dX12_count_124 rfl rfl ?_
                        refine j_get (C := RX12) (T := TX12) (N := 21) X iX12 0 (wM_0 ..) rfl 0 (by decide) k_916 rfl rfl dX12_count_125 ?_
                        refine j_iconst (v := (4 : Int32)) X dX12_count_128 (by decide) ?_
                        obtain ⟨c6, hf⟩ := oi_in hf
                        refine j_iald X 1 (wM_1 ..) c6 dX12_count_129 ?_
                        obtain rfl := Option.some.inj hf
                        exact j_iret X hr hlk rfl dX12_count_130 hQ
                      · replace hf := (if_neg n_38_7).symm.trans hf
                        refine j_tsD (tgt := 131) X [0, 1, 2, 3, 4, 5, 6, 7] (List.forall_mem_cons.mpr ⟨lv_neT n_38_0 (a := 0) rfl, List.forall_mem_cons.mpr ⟨lv_neT n_38_1 (a := 1) rfl, List.forall_mem_cons.mpr ⟨lv_neT n_38_2 (a := 2) rfl, List.forall_mem_cons.mpr ⟨lv_neT n_38_3 (a := 3) rfl, List.forall_mem_cons.mpr ⟨lv_neT n_38_4 (a := 4) rfl, List.forall_mem_cons.mpr ⟨lv_neT n_38_5 (a := 5) rfl, List.forall_mem_cons.mpr ⟨lv_neT n_38_6 (a := 6) rfl, List.forall_mem_cons.mpr ⟨lv_neT n_38_7 (a := 7) rfl, fun _ h => by cases h⟩⟩⟩⟩⟩⟩⟩⟩) (by decide) (by decide) dX12_count_38 (by decide) ?_
                        refine j_aload_n X dX12_count_131 rfl rfl ?_
                        refine j_iconst (v := (1 : Int32)) X dX12_count_132 (by decide) ?_
                        obtain ⟨q7, g_q7, hf⟩ := ob_t hf
                        refine j_callV X [0, 1, 2, 3, 4, 5, 6, 7, 8, 9, 10, 11, 12, 13] 0 (c_X12_error E h g g_q7) (cut_wM_wM_c ..) rfl rfl (ws' := (wM E h g q7.1)) (cut_wM_wM_w ..) (wM_0 ..) rfl k_987 k_989 k_24 k_80 k_990 (⟨rfl, rfl⟩) hdV_X12_error ⟨Nat.le_of_ble_eq_true rfl, Nat.le_of_ble_eq_true rfl⟩ rfl (Nat.le_of_ble_eq_true rfl) rfl dX12_count_133 ?_
                        obtain rfl := Option.some.inj hf
                        exact j_iret X hr hlk rfl dX12_count_136 hQ
      · replace hf := (if_neg c_7).symm.trans hf
        refine j_iload_n X dX12_count_10 rfl rfl ?_
        refine j_aload_n X dX12_count_11 rfl rfl ?_
        refine j_iload_n X dX12_count_12 rfl rfl ?_
        obtain ⟨q8, g_q8, hf⟩ := ob_t hf
        refine j_callV X [0, 1, 2, 3, 4, 5, 6, 7, 8, 9, 10, 11, 12, 13] 0 (c_X12_stands E h g g_q8) (cut_wM_wM_c ..) rfl rfl (ws' := (wM E h g q8.1)) (cut_wM_wM_w ..) (wM_0 ..) rfl k_1093 k_1095 k_41 k_80 k_1096 (⟨rfl, rfl⟩) hdV_X12_stands ⟨Nat.le_of_ble_eq_true rfl, Nat.le_of_ble_eq_true rfl⟩ rfl (Nat.le_of_ble_eq_true rfl) rfl dX12_count_13 ?_
        refine j_if_eq (tgt := 28) X dX12_count_16 (by decide) (fun c_16 => ?_) (fun c_16 => ?_)
        · replace hf := (if_pos c_16).symm.trans hf
          refine j_iconst (v := (0 : Int32)) X dX12_count_28 (by decide) ?_
          refine j_iadd X dX12_count_29 ?_
          obtain ⟨y9, e_y9, hf⟩ := bd_e hf
          refine j_top e_y9 ?_
          refine j_istore_n2 X dX12_count_30 rfl (by decide) rfl ?_
          refine j_iinc3 (k := (1 : Int32)) X dX12_count_31 (by decide) (by decide) rfl ?_
          refine j_goto (tgt := 4) X dX12_count_34 (by decide) ?_
          refine j_keep [true, true, true, true] rfl ?_
          exact ih _ _ _ _ hf
        · replace hf := (if_neg c_16).symm.trans hf
          refine j_aload_n X dX12_count_19 rfl rfl ?_
          refine j_iload_n X dX12_count_20 rfl rfl ?_
          refine j_iconst (v := (3 : Int32)) X dX12_count_21 (by decide) ?_
          obtain ⟨q10, g_q10, hf⟩ := ob_t hf
          refine j_callV X [0, 1, 2, 3, 4, 5, 6, 7, 8, 9, 10, 11, 12, 13] 0 (c_X12_its E h g g_q10) (cut_wM_wM_c ..) rfl rfl (ws' := (wM E h g q10.1)) (cut_wM_wM_w ..) (wM_0 ..) rfl k_1052 k_1054 k_36 k_80 k_1055 (⟨rfl, rfl⟩) hdV_X12_its ⟨Nat.le_of_ble_eq_true rfl, Nat.le_of_ble_eq_true rfl⟩ rfl (Nat.le_of_ble_eq_true rfl) rfl dX12_count_22 ?_
          refine j_goto (tgt := 29) X dX12_count_25 (by decide) ?_
          refine j_iadd X dX12_count_29 ?_
          obtain ⟨y11, e_y11, hf⟩ := bd_e hf
          refine j_top e_y11 ?_
          refine j_istore_n2 X dX12_count_30 rfl (by decide) rfl ?_
          refine j_iinc3 (k := (1 : Int32)) X dX12_count_31 (by decide) (by decide) rfl ?_
          refine j_goto (tgt := 4) X dX12_count_34 (by decide) ?_
          refine j_keep [true, true, true, true] rfl ?_
          exact ih _ _ _ _ hf
  rw [f_X12_count] at hf
  refine j_iconst (v := (0 : Int32)) X dX12_count_0 (by decide) ?_
  refine j_istore_n2 X dX12_count_1 rfl (by decide) rfl ?_
  refine j_iconst (v := (0 : Int32)) X dX12_count_2 (by decide) ?_
  refine j_istore_n3 X dX12_count_3 rfl (by decide) rfl ?_
  refine j_keep [true, true, true, true] rfl ?_
  exact lab4 _ _ _ _ _ hf
def f_X12_told (μ : Mem) (x1 : Int32) : Option (Mem × Int32) := (f_X12_in x1 (1 : Int32) (6 : Int32)).bind fun q1 => ((if q1 = 0 then (f_X12_error μ (1 : Int32)).bind fun q2 => (some (q2.1, q2.2)) else (if inb x1 7 = true then some (μ, (μ 4 x1.toNatClampNeg)) else none)))
set_option maxHeartbeats 4000000 in
set_option maxRecDepth 20000 in
theorem c_X12_told (E : Ev) (h : Nat → Nat) (g : Nat → Option Nat) {μ : Mem} {x1 : Int32} {r : (Mem × Int32)} (hf : f_X12_told μ x1 = some r) : Ct E yX12_told cX12_told 2 (some .int) (rmOf 1 22) (wM E h g μ) (wM E h g r.1) [.ref (h 0), .int x1] (some (.int r.2)) := by
  refine ct_start RX12 0 (by decide) rfl (Nat.le_of_ble_eq_true rfl) ?_
  intro p l e s m args below meth c A Q X hr hlk hQ
  rw [f_X12_told] at hf
  refine j_iload_n X dX12_told_0 rfl rfl ?_
  refine j_iconst (v := (1 : Int32)) X dX12_told_1 (by decide) ?_
  refine j_bipush (v := (6 : Int32)) X dX12_told_2 (by decide) ?_
  obtain ⟨q1, g_q1, hf⟩ := ob_t hf
  refine j_callS X [] (c_X12_in E g_q1) rfl rfl rfl (ws' := (wM E h g μ)) rfl k_984 k_985 k_80 k_986 (⟨rfl, rfl⟩) hdS_X12_in ⟨Nat.le_of_ble_eq_true rfl, Nat.le_of_ble_eq_true rfl⟩ rfl (Nat.le_of_ble_eq_true rfl) rfl dX12_told_4 ?_
  refine j_if_eq (tgt := 19) X dX12_told_7 (by decide) (fun c_7 => ?_) (fun c_7 => ?_)
  · replace hf := (if_pos c_7).symm.trans hf
    refine j_aload_n X dX12_told_19 rfl rfl ?_
    refine j_iconst (v := (1 : Int32)) X dX12_told_20 (by decide) ?_
    obtain ⟨q2, g_q2, hf⟩ := ob_t hf
    refine j_callV X [0, 1, 2, 3, 4, 5, 6, 7, 8, 9, 10, 11, 12, 13] 0 (c_X12_error E h g g_q2) (cut_wM_wM_c ..) rfl rfl (ws' := (wM E h g q2.1)) (cut_wM_wM_w ..) (wM_0 ..) rfl k_987 k_989 k_24 k_80 k_990 (⟨rfl, rfl⟩) hdV_X12_error ⟨Nat.le_of_ble_eq_true rfl, Nat.le_of_ble_eq_true rfl⟩ rfl (Nat.le_of_ble_eq_true rfl) rfl dX12_told_21 ?_
    obtain rfl := Option.some.inj hf
    exact j_iret X hr hlk rfl dX12_told_24 hQ
  · replace hf := (if_neg c_7).symm.trans hf
    refine j_aload_n X dX12_told_10 rfl rfl ?_
    refine j_get (C := RX12) (T := TX12) (N := 21) X iX12 0 (wM_0 ..) rfl 4 (by decide) k_920 rfl rfl dX12_told_11 ?_
    refine j_iload_n X dX12_told_14 rfl rfl ?_
    obtain ⟨c3, hf⟩ := oi_in hf
    refine j_iald X 4 (wM_4 ..) c3 dX12_told_15 ?_
    refine j_goto (tgt := 24) X dX12_told_16 (by decide) ?_
    obtain rfl := Option.some.inj hf
    exact j_iret X hr hlk rfl dX12_told_24 hQ
def f_X1_isMissing (μ : Mem) : Option (Mem × Int32) := (if (μ 0 3) = 0 then some (μ, (1 : Int32)) else some (μ, (0 : Int32)))
set_option maxHeartbeats 4000000 in
set_option maxRecDepth 20000 in
theorem c_X1_isMissing (E : Ev) (h : Nat → Nat) (g : Nat → Option Nat) {μ : Mem} {r : (Mem × Int32)} (hf : f_X1_isMissing μ = some r) : Ct E yX1_isMissing cX1_isMissing 1 (some .boolean) (rmOf 0 0) (wL E h g μ) (wL E h g r.1) [.ref (h 0)] (some (.int r.2)) := by
  refine ct_start RX1 0 (by decide) rfl (Nat.le_of_ble_eq_true rfl) ?_
  intro p l e s m args below meth c A Q X hr hlk hQ
  rw [f_X1_isMissing] at hf
  refine j_aload_n X dX1_isMissing_0 rfl rfl ?_
  refine j_get (C := RX1) (T := TX1) (N := 9) X iX1 0 (wL_0 ..) rfl 3 (by decide) k_157 rfl rfl dX1_isMissing_1 ?_
  refine j_if_ne (tgt := 11) X dX1_isMissing_4 (by decide) (fun c_4 => ?_) (fun c_4 => ?_)
  · replace hf := (if_neg c_4).symm.trans hf
    refine j_iconst (v := (0 : Int32)) X dX1_isMissing_11 (by decide) ?_
    obtain rfl := Option.some.inj hf
    exact j_iret X hr hlk rfl dX1_isMissing_12 hQ
  · replace hf := (if_pos c_4).symm.trans hf
    refine j_iconst (v := (1 : Int32)) X dX1_isMissing_7 (by decide) ?_
    refine j_goto (tgt := 12) X dX1_isMissing_8 (by decide) ?_
    obtain rfl := Option.some.inj hf
    exact j_iret X hr hlk rfl dX1_isMissing_12 hQ
def f_X1_forget (μ : Mem) : Option Mem := bd (upA μ 0 (upd (μ 0) 3 (0 : Int32))) fun μ1 => (some μ1)
set_option maxHeartbeats 4000000 in
set_option maxRecDepth 20000 in
theorem c_X1_forget (E : Ev) (h : Nat → Nat) (g : Nat → Option Nat) {μ : Mem} {r : Mem} (hf : f_X1_forget μ = some r) : Ct E yX1_forget cX1_forget 1 none (rmOf 0 0) (wL E h g μ) (wL E h g r) [.ref (h 0)] none := by
  refine ct_start RX1 0 (by decide) rfl (Nat.le_of_ble_eq_true rfl) ?_
  intro p l e s m args below meth c A Q X hr hlk hQ
  rw [f_X1_forget] at hf
  refine j_aload_n X dX1_forget_0 rfl rfl ?_
  refine j_iconst (v := (0 : Int32)) X dX1_forget_1 (by decide) ?_
  obtain ⟨μ1, e_μ1, hf⟩ := bd_e hf
  refine j_put (C := RX1) (T := TX1) (N := 9) X iX1 0 (wL_0 ..) rfl 3 (by decide) k_157 rfl tyX1 tyX1_ok nmX1 rfl (ty := .int) (by decide +kernel) rfl rfl (Nat.le_of_ble_eq_true rfl) dX1_forget_2 (ws' := (wL E h g μ1)) (by rw [e_μ1]; exact wL_f0_3 ..) ?_
  obtain rfl := Option.some.inj hf
  exact j_vret X hr hlk dX1_forget_5 hQ
def f_X1_joined (x0 : Int32) (x1 : Int32) (x2 : Int32) : Option Int32 := (if x0 = (37 : Int32) then (if x2 = 0 then some (0 : Int32) else (if ¬ x2 = 0 then some (x1 - x1 / x2 * x2) else none)) else (if x0 = (38 : Int32) then (if x1 = 0 then some (0 : Int32) else (if x2 = 0 then some (0 : Int32) else some (1 : Int32))) else (if x0 = (42 : Int32) then some (x1 * x2) else (if x0 = (43 : Int32) then some (x1 + x2) else (if x0 = (45 : Int32) then some (x1 - x2) else (if x0 = (47 : Int32) then (if x2 = 0 then some (0 : Int32) else (if ¬ x2 = 0 then some (x1 / x2) else none)) else (if x0 = (60 : Int32) then (if x2 ≤ x1 then some (0 : Int32) else some (1 : Int32)) else (if x0 = (61 : Int32) then (if x1 = x2 then some (1 : Int32) else some (0 : Int32)) else (if x0 = (62 : Int32) then (if x1 ≤ x2 then some (0 : Int32) else some (1 : Int32)) else (if x1 = 0 then (if x2 = 0 then some (0 : Int32) else some (1 : Int32)) else some (1 : Int32)))))))))))
set_option maxHeartbeats 4000000 in
set_option maxRecDepth 20000 in
theorem c_X1_joined (E : Ev) {x0 : Int32} {x1 : Int32} {x2 : Int32} {r : Int32} (hf : f_X1_joined x0 x1 x2 = some r) : Ct E yX1_joined cX1_joined 3 (some .int) (rmOf 0 0) [] [] [.int x0, .int x1, .int x2] (some (.int r)) := by
  refine ct_start RX1 0 (by decide) rfl (Nat.le_of_ble_eq_true rfl) ?_
  intro p l e s m args below meth c A Q X hr hlk hQ
  rw [f_X1_joined] at hf
  refine j_iload_n X dX1_joined_0 rfl rfl ?_
  by_cases n_1_0 : x0 = (37 : Int32)
  · replace hf := (if_pos n_1_0).symm.trans hf
    refine j_tsI (k := (37 : Int32)) (tgt := 144) X n_1_0 dX1_joined_1 (by decide) (by decide) rfl (by decide) ?_
    refine j_iload_n X dX1_joined_144 rfl rfl ?_
    refine j_if_ne (tgt := 152) X dX1_joined_145 (by decide) (fun c_145 => ?_) (fun c_145 => ?_)
    · replace hf := (if_neg c_145).symm.trans hf
      refine j_iload_n X dX1_joined_152 rfl rfl ?_
      refine j_iload_n X dX1_joined_153 rfl rfl ?_
      obtain ⟨c1, hf⟩ := oi_t hf
      refine j_irem X dX1_joined_154 c1 ?_
      obtain rfl := Option.some.inj hf
      exact j_iret X hr hlk rfl dX1_joined_155 hQ
    · replace hf := (if_pos c_145).symm.trans hf
      refine j_iconst (v := (0 : Int32)) X dX1_joined_148 (by decide) ?_
      refine j_goto (tgt := 155) X dX1_joined_149 (by decide) ?_
      obtain rfl := Option.some.inj hf
      exact j_iret X hr hlk rfl dX1_joined_155 hQ
  · replace hf := (if_neg n_1_0).symm.trans hf
    by_cases n_1_1 : x0 = (38 : Int32)
    · replace hf := (if_pos n_1_1).symm.trans hf
      refine j_tsI (k := (38 : Int32)) (tgt := 189) X n_1_1 dX1_joined_1 (by decide) (by decide) rfl (by decide) ?_
      refine j_iload_n X dX1_joined_189 rfl rfl ?_
      refine j_if_eq (tgt := 201) X dX1_joined_190 (by decide) (fun c_190 => ?_) (fun c_190 => ?_)
      · replace hf := (if_pos c_190).symm.trans hf
        refine j_iconst (v := (0 : Int32)) X dX1_joined_201 (by decide) ?_
        obtain rfl := Option.some.inj hf
        exact j_iret X hr hlk rfl dX1_joined_202 hQ
      · replace hf := (if_neg c_190).symm.trans hf
        refine j_iload_n X dX1_joined_193 rfl rfl ?_
        refine j_if_eq (tgt := 201) X dX1_joined_194 (by decide) (fun c_194 => ?_) (fun c_194 => ?_)
        · replace hf := (if_pos c_194).symm.trans hf
          refine j_iconst (v := (0 : Int32)) X dX1_joined_201 (by decide) ?_
          obtain rfl := Option.some.inj hf
          exact j_iret X hr hlk rfl dX1_joined_202 hQ
        · replace hf := (if_neg c_194).symm.trans hf
          refine j_iconst (v := (1 : Int32)) X dX1_joined_197 (by decide) ?_
          refine j_goto (tgt := 202) X dX1_joined_198 (by decide) ?_
          obtain rfl := Option.some.inj hf
          exact j_iret X hr hlk rfl dX1_joined_202 hQ
    · replace hf := (if_neg n_1_1).symm.trans hf
      by_cases n_1_2 : x0 = (42 : Int32)
      · replace hf := (if_pos n_1_2).symm.trans hf
        refine j_tsI (k := (42 : Int32)) (tgt := 128) X n_1_2 dX1_joined_1 (by decide) (by decide) rfl (by decide) ?_
        refine j_iload_n X dX1_joined_128 rfl rfl ?_
        refine j_iload_n X dX1_joined_129 rfl rfl ?_
        refine j_imul X dX1_joined_130 ?_
        obtain rfl := Option.some.inj hf
        exact j_iret X hr hlk rfl dX1_joined_131 hQ
      · replace hf := (if_neg n_1_2).symm.trans hf
        by_cases n_1_3 : x0 = (43 : Int32)
        · replace hf := (if_pos n_1_3).symm.trans hf
          refine j_tsI (k := (43 : Int32)) (tgt := 120) X n_1_3 dX1_joined_1 (by decide) (by decide) rfl (by decide) ?_
          refine j_iload_n X dX1_joined_120 rfl rfl ?_
          refine j_iload_n X dX1_joined_121 rfl rfl ?_
          refine j_iadd X dX1_joined_122 ?_
          obtain rfl := Option.some.inj hf
          exact j_iret X hr hlk rfl dX1_joined_123 hQ
        · replace hf := (if_neg n_1_3).symm.trans hf
          by_cases n_1_4 : x0 = (45 : Int32)
          · replace hf := (if_pos n_1_4).symm.trans hf
            refine j_tsI (k := (45 : Int32)) (tgt := 124) X n_1_4 dX1_joined_1 (by decide) (by decide) rfl (by decide) ?_
            refine j_iload_n X dX1_joined_124 rfl rfl ?_
            refine j_iload_n X dX1_joined_125 rfl rfl ?_
            refine j_isub X dX1_joined_126 ?_
            obtain rfl := Option.some.inj hf
            exact j_iret X hr hlk rfl dX1_joined_127 hQ
          · replace hf := (if_neg n_1_4).symm.trans hf
            by_cases n_1_5 : x0 = (47 : Int32)
            · replace hf := (if_pos n_1_5).symm.trans hf
              refine j_tsI (k := (47 : Int32)) (tgt := 132) X n_1_5 dX1_joined_1 (by decide) (by decide) rfl (by decide) ?_
              refine j_iload_n X dX1_joined_132 rfl rfl ?_
              refine j_if_ne (tgt := 140) X dX1_joined_133 (by decide) (fun c_133 => ?_) (fun c_133 => ?_)
              · replace hf := (if_neg c_133).symm.trans hf
                refine j_iload_n X dX1_joined_140 rfl rfl ?_
                refine j_iload_n X dX1_joined_141 rfl rfl ?_
                obtain ⟨c2, hf⟩ := oi_t hf
                refine j_idiv X dX1_joined_142 c2 ?_
                obtain rfl := Option.some.inj hf
                exact j_iret X hr hlk rfl dX1_joined_143 hQ
              · replace hf := (if_pos c_133).symm.trans hf
                refine j_iconst (v := (0 : Int32)) X dX1_joined_136 (by decide) ?_
                refine j_goto (tgt := 143) X dX1_joined_137 (by decide) ?_
                obtain rfl := Option.some.inj hf
                exact j_iret X hr hlk rfl dX1_joined_143 hQ
            · replace hf := (if_neg n_1_5).symm.trans hf
              by_cases n_1_6 : x0 = (60 : Int32)
              · replace hf := (if_pos n_1_6).symm.trans hf
                refine j_tsI (k := (60 : Int32)) (tgt := 156) X n_1_6 dX1_joined_1 (by decide) (by decide) rfl (by decide) ?_
                refine j_iload_n X dX1_joined_156 rfl rfl ?_
                refine j_iload_n X dX1_joined_157 rfl rfl ?_
                refine j_icmp_ge (tgt := 165) X dX1_joined_158 (by decide) (fun c_158 => ?_) (fun c_158 => ?_)
                · replace hf := (if_pos c_158).symm.trans hf
                  refine j_iconst (v := (0 : Int32)) X dX1_joined_165 (by decide) ?_
                  obtain rfl := Option.some.inj hf
                  exact j_iret X hr hlk rfl dX1_joined_166 hQ
                · replace hf := (if_neg c_158).symm.trans hf
                  refine j_iconst (v := (1 : Int32)) X dX1_joined_161 (by decide) ?_
                  refine j_goto (tgt := 166) X dX1_joined_162 (by decide) ?_
                  obtain rfl := Option.some.inj hf
                  exact j_iret X hr hlk rfl dX1_joined_166 hQ
              · replace hf := (if_neg n_1_6).symm.trans hf
                by_cases n_1_7 : x0 = (61 : Int32)
                · replace hf := (if_pos n_1_7).symm.trans hf
                  refine j_tsI (k := (61 : Int32)) (tgt := 167) X n_1_7 dX1_joined_1 (by decide) (by decide) rfl (by decide) ?_
                  refine j_iload_n X dX1_joined_167 rfl rfl ?_
                  refine j_iload_n X dX1_joined_168 rfl rfl ?_
                  refine j_icmp_ne (tgt := 176) X dX1_joined_169 (by decide) (fun c_169 => ?_) (fun c_169 => ?_)
                  · replace hf := (if_neg c_169).symm.trans hf
                    refine j_iconst (v := (0 : Int32)) X dX1_joined_176 (by decide) ?_
                    obtain rfl := Option.some.inj hf
                    exact j_iret X hr hlk rfl dX1_joined_177 hQ
                  · replace hf := (if_pos c_169).symm.trans hf
                    refine j_iconst (v := (1 : Int32)) X dX1_joined_172 (by decide) ?_
                    refine j_goto (tgt := 177) X dX1_joined_173 (by decide) ?_
                    obtain rfl := Option.some.inj hf
                    exact j_iret X hr hlk rfl dX1_joined_177 hQ
                · replace hf := (if_neg n_1_7).symm.trans hf
                  by_cases n_1_8 : x0 = (62 : Int32)
                  · replace hf := (if_pos n_1_8).symm.trans hf
                    refine j_tsI (k := (62 : Int32)) (tgt := 178) X n_1_8 dX1_joined_1 (by decide) (by decide) rfl (by decide) ?_
                    refine j_iload_n X dX1_joined_178 rfl rfl ?_
                    refine j_iload_n X dX1_joined_179 rfl rfl ?_
                    refine j_icmp_le (tgt := 187) X dX1_joined_180 (by decide) (fun c_180 => ?_) (fun c_180 => ?_)
                    · replace hf := (if_pos c_180).symm.trans hf
                      refine j_iconst (v := (0 : Int32)) X dX1_joined_187 (by decide) ?_
                      obtain rfl := Option.some.inj hf
                      exact j_iret X hr hlk rfl dX1_joined_188 hQ
                    · replace hf := (if_neg c_180).symm.trans hf
                      refine j_iconst (v := (1 : Int32)) X dX1_joined_183 (by decide) ?_
                      refine j_goto (tgt := 188) X dX1_joined_184 (by decide) ?_
                      obtain rfl := Option.some.inj hf
                      exact j_iret X hr hlk rfl dX1_joined_188 hQ
                  · replace hf := (if_neg n_1_8).symm.trans hf
                    refine j_tsD (tgt := 203) X [37, 38, 42, 43, 45, 47, 60, 61, 62] (List.forall_mem_cons.mpr ⟨lv_neT n_1_0 (a := 37) rfl, List.forall_mem_cons.mpr ⟨lv_neT n_1_1 (a := 38) rfl, List.forall_mem_cons.mpr ⟨lv_neT n_1_2 (a := 42) rfl, List.forall_mem_cons.mpr ⟨lv_neT n_1_3 (a := 43) rfl, List.forall_mem_cons.mpr ⟨lv_neT n_1_4 (a := 45) rfl, List.forall_mem_cons.mpr ⟨lv_neT n_1_5 (a := 47) rfl, List.forall_mem_cons.mpr ⟨lv_neT n_1_6 (a := 60) rfl, List.forall_mem_cons.mpr ⟨lv_neT n_1_7 (a := 61) rfl, List.forall_mem_cons.mpr ⟨lv_neT n_1_8 (a := 62) rfl, fun _ h => by cases h⟩⟩⟩⟩⟩⟩⟩⟩⟩) (by decide) (by decide) dX1_joined_1 (by decide) ?_
                    refine j_iload_n X dX1_joined_203 rfl rfl ?_
                    refine j_if_ne (tgt := 211) X dX1_joined_204 (by decide) (fun c_204 => ?_) (fun c_204 => ?_)
                    · replace hf := (if_neg c_204).symm.trans hf
                      refine j_iconst (v := (1 : Int32)) X dX1_joined_211 (by decide) ?_
                      refine j_goto (tgt := 216) X dX1_joined_212 (by decide) ?_
                      obtain rfl := Option.some.inj hf
                      exact j_iret X hr hlk rfl dX1_joined_216 hQ
                    · replace hf := (if_pos c_204).symm.trans hf
                      refine j_iload_n X dX1_joined_207 rfl rfl ?_
                      refine j_if_eq (tgt := 215) X dX1_joined_208 (by decide) (fun c_208 => ?_) (fun c_208 => ?_)
                      · replace hf := (if_pos c_208).symm.trans hf
                        refine j_iconst (v := (0 : Int32)) X dX1_joined_215 (by decide) ?_
                        obtain rfl := Option.some.inj hf
                        exact j_iret X hr hlk rfl dX1_joined_216 hQ
                      · replace hf := (if_neg c_208).symm.trans hf
                        refine j_iconst (v := (1 : Int32)) X dX1_joined_211 (by decide) ?_
                        refine j_goto (tgt := 216) X dX1_joined_212 (by decide) ?_
                        obtain rfl := Option.some.inj hf
                        exact j_iret X hr hlk rfl dX1_joined_216 hQ
def f_X1_gives_L6 : Nat → Mem → Int32 → Int32 → Int32 → Int32 → Int32 → Option (Mem × Int32)
  | 0, _, _, _, _, _, _ => none
  | n + 1, μ, x1, x2, x3, x4, x5 => (if (μ 0 3) ≤ x5 then (if inb (0 : Int32) 60 = true then some (μ, (μ 1 (0 : Int32).toNatClampNeg)) else none) else (if (60 : Int32) ≤ x4 then (if inb (0 : Int32) 60 = true then some (μ, (μ 1 (0 : Int32).toNatClampNeg)) else none) else (if inb x5 60 = true then bd (μ 2 x5.toNatClampNeg) fun y4 => ((if y4 < 0 then (if (-y4) = (33 : Int32) then (if x4 < (1 : Int32) then (f_X1_gives_L6 n) μ x1 x2 x3 x4 (x5 + (1 : Int32)) else (if inb (x4 - (1 : Int32)) 60 = true then (if (μ 1 (x4 - (1 : Int32)).toNatClampNeg) = 0 then (if inb (x4 - (1 : Int32)) 60 = true then bd (upA μ 1 (upd (μ 1) (x4 - (1 : Int32)).toNatClampNeg (1 : Int32))) fun μ14 => ((f_X1_gives_L6 n) μ14 x1 x2 x3 x4 (x5 + (1 : Int32))) else none) else (if inb (x4 - (1 : Int32)) 60 = true then bd (upA μ 1 (upd (μ 1) (x4 - (1 : Int32)).toNatClampNeg (0 : Int32))) fun μ12 => ((f_X1_gives_L6 n) μ12 x1 x2 x3 x4 (x5 + (1 : Int32))) else none)) else none)) else (if (-y4) = (100 : Int32) then (if inb x4 60 = true then bd (upA μ 1 (upd (μ 1) x4.toNatClampNeg x1)) fun μ16 => ((f_X1_gives_L6 n) μ16 x1 x2 x3 (x4 + (1 : Int32)) (x5 + (1 : Int32))) else none) else (if (-y4) = (109 : Int32) then (if inb x4 60 = true then bd (upA μ 1 (upd (μ 1) x4.toNatClampNeg x3)) fun μ18 => ((f_X1_gives_L6 n) μ18 x1 x2 x3 (x4 + (1 : Int32)) (x5 + (1 : Int32))) else none) else (if (-y4) = (112 : Int32) then (if inb x4 60 = true then bd (upA μ 1 (upd (μ 1) x4.toNatClampNeg x2)) fun μ20 => ((f_X1_gives_L6 n) μ20 x1 x2 x3 (x4 + (1 : Int32)) (x5 + (1 : Int32))) else none) else (if (-y4) = (115 : Int32) then (if inb x4 60 = true then bd (upA μ 1 (upd (μ 1) x4.toNatClampNeg x1)) fun μ22 => ((f_X1_gives_L6 n) μ22 x1 x2 x3 (x4 + (1 : Int32)) (x5 + (1 : Int32))) else none) else (if x4 < (2 : Int32) then (f_X1_gives_L6 n) μ x1 x2 x3 x4 (x5 + (1 : Int32)) else (if inb ((x4 + (-1 : Int32)) - (1 : Int32)) 60 = true then (if inb (x4 + (-1 : Int32)) 60 = true then (f_X1_joined (-y4) (μ 1 ((x4 + (-1 : Int32)) - (1 : Int32)).toNatClampNeg) (μ 1 (x4 + (-1 : Int32)).toNatClampNeg)).bind fun q7 => ((if inb ((x4 + (-1 : Int32)) - (1 : Int32)) 60 = true then bd (upA μ 1 (upd (μ 1) ((x4 + (-1 : Int32)) - (1 : Int32)).toNatClampNeg q7)) fun μ9 => ((f_X1_gives_L6 n) μ9 x1 x2 x3 (x4 + (-1 : Int32)) (x5 + (1 : Int32))) else none)) else none) else none))))))) else (if inb x4 60 = true then bd (upA μ 1 (upd (μ 1) x4.toNatClampNeg y4)) fun μ24 => ((f_X1_gives_L6 n) μ24 x1 x2 x3 (x4 + (1 : Int32)) (x5 + (1 : Int32))) else none))) else none)))
def f_X1_gives (μ : Mem) (x1 : Int32) (x2 : Int32) (x3 : Int32) : Option (Mem × Int32) := f_X1_gives_L6 fuel0 μ x1 x2 x3 (0 : Int32) (0 : Int32)
set_option maxHeartbeats 4000000 in
set_option maxRecDepth 20000 in
theorem c_X1_gives (E : Ev) (h : Nat → Nat) (g : Nat → Option Nat) {μ : Mem} {x1 : Int32} {x2 : Int32} {x3 : Int32} {r : (Mem × Int32)} (hf : f_X1_gives μ x1 x2 x3 = some r) : Ct E yX1_gives cX1_gives 7 (some .int) (rmOf 1 22) (wL E h g μ) (wL E h g r.1) [.ref (h 0), .int x1, .int x2, .int x3] (some (.int r.2)) := by
  refine ct_start RX1 3 (by decide) rfl (Nat.le_of_ble_eq_true rfl) ?_
  intro p l e s m args below meth c A Q X hr hlk hQ
  have lab6 : ∀ (n : Nat) (μ : Mem) (x1 : Int32) (x2 : Int32) (x3 : Int32) (x4 : Int32) (x5 : Int32), f_X1_gives_L6 n μ x1 x2 x3 x4 x5 = some r → J p l e (rmOf 1 22) s m args below meth c E A 7 Q (wL E h g μ) [some (.ref (h 0)), some (.int x1), some (.int x2), some (.int x3), some (.int x4), some (.int x5), none] 6 [] := by
    intro n
    induction n with
    | zero => intro μ x1 x2 x3 x4 x5 hf; cases (show none = some r from hf)
    | succ n ih =>
      intro μ x1 x2 x3 x4 x5 hf
      rw [f_X1_gives_L6] at hf
      refine j_iload X dX1_gives_6 rfl ?_
      refine j_aload_n X dX1_gives_8 rfl rfl ?_
      refine j_get (C := RX1) (T := TX1) (N := 9) X iX1 0 (wL_0 ..) rfl 3 (by decide) k_157 rfl rfl dX1_gives_9 ?_
      refine j_icmp_ge (tgt := 227) X dX1_gives_12 (by decide) (fun c_12 => ?_) (fun c_12 => ?_)
      · replace hf := (if_pos c_12).symm.trans hf
        refine j_aload_n X dX1_gives_227 rfl rfl ?_
        refine j_get (C := RX1) (T := TX1) (N := 9) X iX1 0 (wL_0 ..) rfl 1 (by decide) k_155 rfl rfl dX1_gives_228 ?_
        refine j_iconst (v := (0 : Int32)) X dX1_gives_231 (by decide) ?_
        obtain ⟨c1, hf⟩ := oi_in hf
        refine j_iald X 1 (wL_1 ..) c1 dX1_gives_232 ?_
        obtain rfl := Option.some.inj hf
        exact j_iret X hr hlk rfl dX1_gives_233 hQ
      · replace hf := (if_neg c_12).symm.trans hf
        refine j_iload X dX1_gives_15 rfl ?_
        refine j_bipush (v := (60 : Int32)) X dX1_gives_17 (by decide) ?_
        refine j_icmp_ge (tgt := 227) X dX1_gives_19 (by decide) (fun c_19 => ?_) (fun c_19 => ?_)
        · replace hf := (if_pos c_19).symm.trans hf
          refine j_aload_n X dX1_gives_227 rfl rfl ?_
          refine j_get (C := RX1) (T := TX1) (N := 9) X iX1 0 (wL_0 ..) rfl 1 (by decide) k_155 rfl rfl dX1_gives_228 ?_
          refine j_iconst (v := (0 : Int32)) X dX1_gives_231 (by decide) ?_
          obtain ⟨c2, hf⟩ := oi_in hf
          refine j_iald X 1 (wL_1 ..) c2 dX1_gives_232 ?_
          obtain rfl := Option.some.inj hf
          exact j_iret X hr hlk rfl dX1_gives_233 hQ
        · replace hf := (if_neg c_19).symm.trans hf
          refine j_aload_n X dX1_gives_22 rfl rfl ?_
          refine j_get (C := RX1) (T := TX1) (N := 9) X iX1 0 (wL_0 ..) rfl 2 (by decide) k_156 rfl rfl dX1_gives_23 ?_
          refine j_iload X dX1_gives_26 rfl ?_
          obtain ⟨c3, hf⟩ := oi_in hf
          refine j_iald X 2 (wL_2 ..) c3 dX1_gives_28 ?_
          obtain ⟨y4, e_y4, hf⟩ := bd_e hf
          refine j_top e_y4 ?_
          refine j_istore6 X dX1_gives_29 (by decide) rfl ?_
          refine j_iload X dX1_gives_31 rfl ?_
          refine j_if_lt (tgt := 51) X dX1_gives_33 (by decide) (fun c_33 => ?_) (fun c_33 => ?_)
          · replace hf := (if_pos c_33).symm.trans hf
            refine j_iload X dX1_gives_51 rfl ?_
            refine j_ineg X dX1_gives_53 ?_
            by_cases n_54_0 : (-y4) = (33 : Int32)
            · replace hf := (if_pos n_54_0).symm.trans hf
              refine j_lsw (off := 92) (tgt := 146) X dX1_gives_54 (by decide) (by rw [n_54_0]; decide) (by decide) ?_
              refine j_iload X dX1_gives_146 rfl ?_
              refine j_iconst (v := (1 : Int32)) X dX1_gives_148 (by decide) ?_
              refine j_icmp_lt (tgt := 221) X dX1_gives_149 (by decide) (fun c_149 => ?_) (fun c_149 => ?_)
              · replace hf := (if_pos c_149).symm.trans hf
                refine j_iinc5 (k := (1 : Int32)) X dX1_gives_221 (by decide) (by decide) rfl ?_
                refine j_goto (tgt := 6) X dX1_gives_224 (by decide) ?_
                refine j_keep [true, true, true, true, true, true, false] rfl ?_
                exact ih _ _ _ _ _ _ hf
              · replace hf := (if_neg c_149).symm.trans hf
                refine j_aload_n X dX1_gives_152 rfl rfl ?_
                refine j_get (C := RX1) (T := TX1) (N := 9) X iX1 0 (wL_0 ..) rfl 1 (by decide) k_155 rfl rfl dX1_gives_153 ?_
                refine j_iload X dX1_gives_156 rfl ?_
                refine j_iconst (v := (1 : Int32)) X dX1_gives_158 (by decide) ?_
                refine j_isub X dX1_gives_159 ?_
                refine j_aload_n X dX1_gives_160 rfl rfl ?_
                refine j_get (C := RX1) (T := TX1) (N := 9) X iX1 0 (wL_0 ..) rfl 1 (by decide) k_155 rfl rfl dX1_gives_161 ?_
                refine j_iload X dX1_gives_164 rfl ?_
                refine j_iconst (v := (1 : Int32)) X dX1_gives_166 (by decide) ?_
                refine j_isub X dX1_gives_167 ?_
                obtain ⟨c10, hf⟩ := oi_in hf
                refine j_iald X 1 (wL_1 ..) c10 dX1_gives_168 ?_
                refine j_if_ne (tgt := 176) X dX1_gives_169 (by decide) (fun c_169 => ?_) (fun c_169 => ?_)
                · replace hf := (if_neg c_169).symm.trans hf
                  refine j_iconst (v := (0 : Int32)) X dX1_gives_176 (by decide) ?_
                  obtain ⟨c11, hf⟩ := oi_in hf
                  obtain ⟨μ12, e_μ12, hf⟩ := bd_e hf
                  refine j_iast X 1 (wL_1 ..) c11 dX1_gives_177 (ws' := (wL E h g μ12)) (by rw [e_μ12]; exact wL_s1 ..) ?_
                  refine j_goto (tgt := 221) X dX1_gives_178 (by decide) ?_
                  refine j_iinc5 (k := (1 : Int32)) X dX1_gives_221 (by decide) (by decide) rfl ?_
                  refine j_goto (tgt := 6) X dX1_gives_224 (by decide) ?_
                  refine j_keep [true, true, true, true, true, true, false] rfl ?_
                  exact ih _ _ _ _ _ _ hf
                · replace hf := (if_pos c_169).symm.trans hf
                  refine j_iconst (v := (1 : Int32)) X dX1_gives_172 (by decide) ?_
                  refine j_goto (tgt := 177) X dX1_gives_173 (by decide) ?_
                  obtain ⟨c13, hf⟩ := oi_in hf
                  obtain ⟨μ14, e_μ14, hf⟩ := bd_e hf
                  refine j_iast X 1 (wL_1 ..) c13 dX1_gives_177 (ws' := (wL E h g μ14)) (by rw [e_μ14]; exact wL_s1 ..) ?_
                  refine j_goto (tgt := 221) X dX1_gives_178 (by decide) ?_
                  refine j_iinc5 (k := (1 : Int32)) X dX1_gives_221 (by decide) (by decide) rfl ?_
                  refine j_goto (tgt := 6) X dX1_gives_224 (by decide) ?_
                  refine j_keep [true, true, true, true, true, true, false] rfl ?_
                  exact ih _ _ _ _ _ _ hf
            · replace hf := (if_neg n_54_0).symm.trans hf
              by_cases n_54_1 : (-y4) = (100 : Int32)
              · replace hf := (if_pos n_54_1).symm.trans hf
                refine j_lsw (off := 50) (tgt := 104) X dX1_gives_54 (by decide) (by rw [n_54_1]; decide) (by decide) ?_
                refine j_aload_n X dX1_gives_104 rfl rfl ?_
                refine j_get (C := RX1) (T := TX1) (N := 9) X iX1 0 (wL_0 ..) rfl 1 (by decide) k_155 rfl rfl dX1_gives_105 ?_
                refine j_iload X dX1_gives_108 rfl ?_
                refine j_iinc4 (k := (1 : Int32)) X dX1_gives_110 (by decide) (by decide) rfl ?_
                refine j_iload_n X dX1_gives_113 rfl rfl ?_
                obtain ⟨c15, hf⟩ := oi_in hf
                obtain ⟨μ16, e_μ16, hf⟩ := bd_e hf
                refine j_iast X 1 (wL_1 ..) c15 dX1_gives_114 (ws' := (wL E h g μ16)) (by rw [e_μ16]; exact wL_s1 ..) ?_
                refine j_goto (tgt := 221) X dX1_gives_115 (by decide) ?_
                refine j_iinc5 (k := (1 : Int32)) X dX1_gives_221 (by decide) (by decide) rfl ?_
                refine j_goto (tgt := 6) X dX1_gives_224 (by decide) ?_
                refine j_keep [true, true, true, true, true, true, false] rfl ?_
                exact ih _ _ _ _ _ _ hf
              · replace hf := (if_neg n_54_1).symm.trans hf
                by_cases n_54_2 : (-y4) = (109 : Int32)
                · replace hf := (if_pos n_54_2).symm.trans hf
                  refine j_lsw (off := 78) (tgt := 132) X dX1_gives_54 (by decide) (by rw [n_54_2]; decide) (by decide) ?_
                  refine j_aload_n X dX1_gives_132 rfl rfl ?_
                  refine j_get (C := RX1) (T := TX1) (N := 9) X iX1 0 (wL_0 ..) rfl 1 (by decide) k_155 rfl rfl dX1_gives_133 ?_
                  refine j_iload X dX1_gives_136 rfl ?_
                  refine j_iinc4 (k := (1 : Int32)) X dX1_gives_138 (by decide) (by decide) rfl ?_
                  refine j_iload_n X dX1_gives_141 rfl rfl ?_
                  obtain ⟨c17, hf⟩ := oi_in hf
                  obtain ⟨μ18, e_μ18, hf⟩ := bd_e hf
                  refine j_iast X 1 (wL_1 ..) c17 dX1_gives_142 (ws' := (wL E h g μ18)) (by rw [e_μ18]; exact wL_s1 ..) ?_
                  refine j_goto (tgt := 221) X dX1_gives_143 (by decide) ?_
                  refine j_iinc5 (k := (1 : Int32)) X dX1_gives_221 (by decide) (by decide) rfl ?_
                  refine j_goto (tgt := 6) X dX1_gives_224 (by decide) ?_
                  refine j_keep [true, true, true, true, true, true, false] rfl ?_
                  exact ih _ _ _ _ _ _ hf
                · replace hf := (if_neg n_54_2).symm.trans hf
                  by_cases n_54_3 : (-y4) = (112 : Int32)
                  · replace hf := (if_pos n_54_3).symm.trans hf
                    refine j_lsw (off := 64) (tgt := 118) X dX1_gives_54 (by decide) (by rw [n_54_3]; decide) (by decide) ?_
                    refine j_aload_n X dX1_gives_118 rfl rfl ?_
                    refine j_get (C := RX1) (T := TX1) (N := 9) X iX1 0 (wL_0 ..) rfl 1 (by decide) k_155 rfl rfl dX1_gives_119 ?_
                    refine j_iload X dX1_gives_122 rfl ?_
                    refine j_iinc4 (k := (1 : Int32)) X dX1_gives_124 (by decide) (by decide) rfl ?_
                    refine j_iload_n X dX1_gives_127 rfl rfl ?_
                    obtain ⟨c19, hf⟩ := oi_in hf
                    obtain ⟨μ20, e_μ20, hf⟩ := bd_e hf
                    refine j_iast X 1 (wL_1 ..) c19 dX1_gives_128 (ws' := (wL E h g μ20)) (by rw [e_μ20]; exact wL_s1 ..) ?_
                    refine j_goto (tgt := 221) X dX1_gives_129 (by decide) ?_
                    refine j_iinc5 (k := (1 : Int32)) X dX1_gives_221 (by decide) (by decide) rfl ?_
                    refine j_goto (tgt := 6) X dX1_gives_224 (by decide) ?_
                    refine j_keep [true, true, true, true, true, true, false] rfl ?_
                    exact ih _ _ _ _ _ _ hf
                  · replace hf := (if_neg n_54_3).symm.trans hf
                    by_cases n_54_4 : (-y4) = (115 : Int32)
                    · replace hf := (if_pos n_54_4).symm.trans hf
                      refine j_lsw (off := 50) (tgt := 104) X dX1_gives_54 (by decide) (by rw [n_54_4]; decide) (by decide) ?_
                      refine j_aload_n X dX1_gives_104 rfl rfl ?_
                      refine j_get (C := RX1) (T := TX1) (N := 9) X iX1 0 (wL_0 ..) rfl 1 (by decide) k_155 rfl rfl dX1_gives_105 ?_
                      refine j_iload X dX1_gives_108 rfl ?_
                      refine j_iinc4 (k := (1 : Int32)) X dX1_gives_110 (by decide) (by decide) rfl ?_
                      refine j_iload_n X dX1_gives_113 rfl rfl ?_
                      obtain ⟨c21, hf⟩ := oi_in hf
                      obtain ⟨μ22, e_μ22, hf⟩ := bd_e hf
                      refine j_iast X 1 (wL_1 ..) c21 dX1_gives_114 (ws' := (wL E h g μ22)) (by rw [e_μ22]; exact wL_s1 ..) ?_
                      refine j_goto (tgt := 221) X dX1_gives_115 (by decide) ?_
                      refine j_iinc5 (k := (1 : Int32)) X dX1_gives_221 (by decide) (by decide) rfl ?_
                      refine j_goto (tgt := 6) X dX1_gives_224 (by decide) ?_
                      refine j_keep [true, true, true, true, true, true, false] rfl ?_
                      exact ih _ _ _ _ _ _ hf
                    · replace hf := (if_neg n_54_4).symm.trans hf
                      refine j_lsw (off := 127) (tgt := 181) X dX1_gives_54 (by decide) ((lv_osw n_54_0 rfl).trans <| (lv_osw n_54_1 rfl).trans <| (lv_osw n_54_2 rfl).trans <| (lv_osw n_54_3 rfl).trans <| (lv_osw n_54_4 rfl).trans <| rfl) (by decide) ?_
                      refine j_iload X dX1_gives_181 rfl ?_
                      refine j_iconst (v := (2 : Int32)) X dX1_gives_183 (by decide) ?_
                      refine j_icmp_lt (tgt := 221) X dX1_gives_184 (by decide) (fun c_184 => ?_) (fun c_184 => ?_)
                      · replace hf := (if_pos c_184).symm.trans hf
                        refine j_iinc5 (k := (1 : Int32)) X dX1_gives_221 (by decide) (by decide) rfl ?_
                        refine j_goto (tgt := 6) X dX1_gives_224 (by decide) ?_
                        refine j_keep [true, true, true, true, true, true, false] rfl ?_
                        exact ih _ _ _ _ _ _ hf
                      · replace hf := (if_neg c_184).symm.trans hf
                        refine j_iinc4 (k := (-1 : Int32)) X dX1_gives_187 (by decide) (by decide) rfl ?_
                        refine j_aload_n X dX1_gives_190 rfl rfl ?_
                        refine j_get (C := RX1) (T := TX1) (N := 9) X iX1 0 (wL_0 ..) rfl 1 (by decide) k_155 rfl rfl dX1_gives_191 ?_
                        refine j_iload X dX1_gives_194 rfl ?_
                        refine j_iconst (v := (1 : Int32)) X dX1_gives_196 (by decide) ?_
                        refine j_isub X dX1_gives_197 ?_
                        refine j_iload X dX1_gives_198 rfl ?_
                        refine j_ineg X dX1_gives_200 ?_
                        refine j_aload_n X dX1_gives_201 rfl rfl ?_
                        refine j_get (C := RX1) (T := TX1) (N := 9) X iX1 0 (wL_0 ..) rfl 1 (by decide) k_155 rfl rfl dX1_gives_202 ?_
                        refine j_iload X dX1_gives_205 rfl ?_
                        refine j_iconst (v := (1 : Int32)) X dX1_gives_207 (by decide) ?_
                        refine j_isub X dX1_gives_208 ?_
                        obtain ⟨c5, hf⟩ := oi_in hf
                        refine j_iald X 1 (wL_1 ..) c5 dX1_gives_209 ?_
                        refine j_aload_n X dX1_gives_210 rfl rfl ?_
                        refine j_get (C := RX1) (T := TX1) (N := 9) X iX1 0 (wL_0 ..) rfl 1 (by decide) k_155 rfl rfl dX1_gives_211 ?_
                        refine j_iload X dX1_gives_214 rfl ?_
                        obtain ⟨c6, hf⟩ := oi_in hf
                        refine j_iald X 1 (wL_1 ..) c6 dX1_gives_216 ?_
                        obtain ⟨q7, g_q7, hf⟩ := ob_t hf
                        refine j_callS X [] (c_X1_joined E g_q7) rfl rfl rfl (ws' := (wL E h g μ)) rfl k_396 k_397 k_77 k_398 (⟨rfl, rfl⟩) hdS_X1_joined ⟨Nat.le_of_ble_eq_true rfl, Nat.le_of_ble_eq_true rfl⟩ rfl (Nat.le_of_ble_eq_true rfl) rfl dX1_gives_217 ?_
                        obtain ⟨c8, hf⟩ := oi_in hf
                        obtain ⟨μ9, e_μ9, hf⟩ := bd_e hf
                        refine j_iast X 1 (wL_1 ..) c8 dX1_gives_220 (ws' := (wL E h g μ9)) (by rw [e_μ9]; exact wL_s1 ..) ?_
                        refine j_iinc5 (k := (1 : Int32)) X dX1_gives_221 (by decide) (by decide) rfl ?_
                        refine j_goto (tgt := 6) X dX1_gives_224 (by decide) ?_
                        refine j_keep [true, true, true, true, true, true, false] rfl ?_
                        exact ih _ _ _ _ _ _ hf
          · replace hf := (if_neg c_33).symm.trans hf
            refine j_aload_n X dX1_gives_36 rfl rfl ?_
            refine j_get (C := RX1) (T := TX1) (N := 9) X iX1 0 (wL_0 ..) rfl 1 (by decide) k_155 rfl rfl dX1_gives_37 ?_
            refine j_iload X dX1_gives_40 rfl ?_
            refine j_iinc4 (k := (1 : Int32)) X dX1_gives_42 (by decide) (by decide) rfl ?_
            refine j_iload X dX1_gives_45 rfl ?_
            obtain ⟨c23, hf⟩ := oi_in hf
            obtain ⟨μ24, e_μ24, hf⟩ := bd_e hf
            refine j_iast X 1 (wL_1 ..) c23 dX1_gives_47 (ws' := (wL E h g μ24)) (by rw [e_μ24]; exact wL_s1 ..) ?_
            refine j_goto (tgt := 221) X dX1_gives_48 (by decide) ?_
            refine j_iinc5 (k := (1 : Int32)) X dX1_gives_221 (by decide) (by decide) rfl ?_
            refine j_goto (tgt := 6) X dX1_gives_224 (by decide) ?_
            refine j_keep [true, true, true, true, true, true, false] rfl ?_
            exact ih _ _ _ _ _ _ hf
  rw [f_X1_gives] at hf
  refine j_iconst (v := (0 : Int32)) X dX1_gives_0 (by decide) ?_
  refine j_istore4 X dX1_gives_1 (by decide) rfl ?_
  refine j_iconst (v := (0 : Int32)) X dX1_gives_3 (by decide) ?_
  refine j_istore5 X dX1_gives_4 (by decide) rfl ?_
  refine j_keep [true, true, true, true, true, true, false] rfl ?_
  exact lab6 _ _ _ _ _ _ _ hf
def f_X1_copyFrom (μ : Mem) : Option Mem := (if inc (0 : Int32) (0 : Int32) (60 : Int32) 60 60 = true then bd (upA μ 1 (va_cpy (μ 3) (μ 1) (0 : Int32).toNatClampNeg (0 : Int32).toNatClampNeg (60 : Int32).toNatClampNeg)) fun μ2 => (bd (upA μ2 0 (upd (μ2 0) 3 (μ2 2 3))) fun μ3 => (some μ3)) else none)
set_option maxHeartbeats 4000000 in
set_option maxRecDepth 20000 in
theorem c_X1_copyFrom (E : Ev) (h : Nat → Nat) (g : Nat → Option Nat) {μ : Mem} {r : Mem} (hf : f_X1_copyFrom μ = some r) : Ct E yX1_copyFrom cX1_copyFrom 2 none (rmOf 1 43) (wLC E h g μ) (wLC E h g r) [.ref (h 0), .ref (h 2)] none := by
  refine ct_start RX1 0 (by decide) rfl (Nat.le_of_ble_eq_true rfl) ?_
  intro p l e s m args below meth c A Q X hr hlk hQ
  rw [f_X1_copyFrom] at hf
  refine j_aload_n X dX1_copyFrom_0 rfl rfl ?_
  refine j_get (C := RX1) (T := TX1) (N := 9) X iX1 2 (wLC_2 ..) rfl 2 (by decide) k_156 rfl rfl dX1_copyFrom_1 ?_
  refine j_iconst (v := (0 : Int32)) X dX1_copyFrom_4 (by decide) ?_
  refine j_aload_n X dX1_copyFrom_5 rfl rfl ?_
  refine j_get (C := RX1) (T := TX1) (N := 9) X iX1 0 (wLC_0 ..) rfl 2 (by decide) k_156 rfl rfl dX1_copyFrom_6 ?_
  refine j_iconst (v := (0 : Int32)) X dX1_copyFrom_9 (by decide) ?_
  refine j_bipush (v := (60 : Int32)) X dX1_copyFrom_10 (by decide) ?_
  obtain ⟨c1, hf⟩ := oi_cp hf
  obtain ⟨μ2, e_μ2, hf⟩ := bd_e hf
  refine j_copyi X k_879 k_644 k_643 k_82 3 1 (wLC_3 ..) (wLC_1 ..) c1.1 c1.2.1 c1.2.2.1 c1.2.2.2.1 c1.2.2.2.2 (Nat.le_of_ble_eq_true rfl) (Nat.le_of_ble_eq_true rfl) dX1_copyFrom_12 (ws' := (wLC E h g μ2)) (by rw [e_μ2]; exact wLC_s1 ..) ?_
  refine j_aload_n X dX1_copyFrom_15 rfl rfl ?_
  refine j_aload_n X dX1_copyFrom_16 rfl rfl ?_
  refine j_get (C := RX1) (T := TX1) (N := 9) X iX1 2 (wLC_2 ..) rfl 3 (by decide) k_157 rfl rfl dX1_copyFrom_17 ?_
  obtain ⟨μ3, e_μ3, hf⟩ := bd_e hf
  refine j_put (C := RX1) (T := TX1) (N := 9) X iX1 0 (wLC_0 ..) rfl 3 (by decide) k_157 rfl tyX1 tyX1_ok nmX1 rfl (ty := .int) (by decide +kernel) rfl rfl (Nat.le_of_ble_eq_true rfl) dX1_copyFrom_20 (ws' := (wLC E h g μ3)) (by rw [e_μ3]; exact wLC_f0_3 ..) ?_
  obtain rfl := Option.some.inj hf
  exact j_vret X hr hlk dX1_copyFrom_23 hQ
def f_X1_nextSign (μ : Mem) : Option (Mem × Int32) := (if (μ 0 7) ≤ (μ 0 8) then some (μ, (-1 : Int32)) else (if inb (μ 0 8) 60 = true then some (μ, (μ 4 (μ 0 8).toNatClampNeg)) else none))
set_option maxHeartbeats 4000000 in
set_option maxRecDepth 20000 in
theorem c_X1_nextSign (E : Ev) (h : Nat → Nat) (g : Nat → Option Nat) {μ : Mem} {r : (Mem × Int32)} (hf : f_X1_nextSign μ = some r) : Ct E yX1_nextSign cX1_nextSign 1 (some .int) (rmOf 0 0) (wB E h g μ) (wB E h g r.1) [.ref (h 0)] (some (.int r.2)) := by
  refine ct_start RX1 0 (by decide) rfl (Nat.le_of_ble_eq_true rfl) ?_
  intro p l e s m args below meth c A Q X hr hlk hQ
  rw [f_X1_nextSign] at hf
  refine j_aload_n X dX1_nextSign_0 rfl rfl ?_
  refine j_get (C := RX1) (T := TX1) (N := 9) X iX1 0 (wB_0 ..) rfl 8 (by decide) k_162 rfl rfl dX1_nextSign_1 ?_
  refine j_aload_n X dX1_nextSign_4 rfl rfl ?_
  refine j_get (C := RX1) (T := TX1) (N := 9) X iX1 0 (wB_0 ..) rfl 7 (by decide) k_161 rfl rfl dX1_nextSign_5 ?_
  refine j_icmp_ge (tgt := 23) X dX1_nextSign_8 (by decide) (fun c_8 => ?_) (fun c_8 => ?_)
  · replace hf := (if_pos c_8).symm.trans hf
    refine j_iconst (v := (-1 : Int32)) X dX1_nextSign_23 (by decide) ?_
    obtain rfl := Option.some.inj hf
    exact j_iret X hr hlk rfl dX1_nextSign_24 hQ
  · replace hf := (if_neg c_8).symm.trans hf
    refine j_aload_n X dX1_nextSign_11 rfl rfl ?_
    refine j_get (C := RX1) (T := TX1) (N := 9) X iX1 0 (wB_0 ..) rfl 6 (by decide) k_160 rfl rfl dX1_nextSign_12 ?_
    refine j_aload_n X dX1_nextSign_15 rfl rfl ?_
    refine j_get (C := RX1) (T := TX1) (N := 9) X iX1 0 (wB_0 ..) rfl 8 (by decide) k_162 rfl rfl dX1_nextSign_16 ?_
    obtain ⟨c1, hf⟩ := oi_in hf
    refine j_bald X 4 (wB_4 ..) c1 dX1_nextSign_19 ?_
    refine j_goto (tgt := 24) X dX1_nextSign_20 (by decide) ?_
    obtain rfl := Option.some.inj hf
    exact j_iret X hr hlk rfl dX1_nextSign_24 hQ
theorem cut_wB_wB_c (E : Ev) (h : Nat → Nat) (g : Nat → Option Nat) (μ : Mem) : ([0, 1, 2, 3, 4] : List Nat).map (fun i => (wB E h g μ)[i]?) = (wB E h g μ).map some := cutAll (n := 5) rfl
theorem cut_wB_wB_w (E : Ev) (h : Nat → Nat) (g : Nat → Option Nat) (μ : Mem) (ν : Mem) : putW (wB E h g μ) [0, 1, 2, 3, 4] (wB E h g ν) = wB E h g ν := putW_all (n := 5) (by decide +kernel) rfl rfl
def f_X1_takeSign (μ : Mem) : Option (Mem × Int32) := (f_X1_nextSign μ).bind fun q1 => (bd (upA q1.1 0 (upd (q1.1 0) 8 ((q1.1 0 8) + (1 : Int32)))) fun μ2 => (some (μ2, q1.2)))
set_option maxHeartbeats 4000000 in
set_option maxRecDepth 20000 in
theorem c_X1_takeSign (E : Ev) (h : Nat → Nat) (g : Nat → Option Nat) {μ : Mem} {r : (Mem × Int32)} (hf : f_X1_takeSign μ = some r) : Ct E yX1_takeSign cX1_takeSign 2 (some .int) (rmOf 1 20) (wB E h g μ) (wB E h g r.1) [.ref (h 0)] (some (.int r.2)) := by
  refine ct_start RX1 1 (by decide) rfl (Nat.le_of_ble_eq_true rfl) ?_
  intro p l e s m args below meth c A Q X hr hlk hQ
  rw [f_X1_takeSign] at hf
  refine j_aload_n X dX1_takeSign_0 rfl rfl ?_
  obtain ⟨q1, g_q1, hf⟩ := ob_t hf
  refine j_callV X [0, 1, 2, 3, 4] 0 (c_X1_nextSign E h g g_q1) (cut_wB_wB_c ..) rfl rfl (ws' := (wB E h g q1.1)) (cut_wB_wB_w ..) (wB_0 ..) rfl k_552 k_554 k_11 k_77 k_555 (⟨rfl, rfl⟩) hdV_X1_nextSign ⟨Nat.le_of_ble_eq_true rfl, Nat.le_of_ble_eq_true rfl⟩ rfl (Nat.le_of_ble_eq_true rfl) rfl dX1_takeSign_1 ?_
  refine j_istore_n1 X dX1_takeSign_4 rfl (by decide) rfl ?_
  refine j_aload_n X dX1_takeSign_5 rfl rfl ?_
  refine j_dup X dX1_takeSign_6 rfl ?_
  refine j_get (C := RX1) (T := TX1) (N := 9) X iX1 0 (wB_0 ..) rfl 8 (by decide) k_162 rfl rfl dX1_takeSign_7 ?_
  refine j_iconst (v := (1 : Int32)) X dX1_takeSign_10 (by decide) ?_
  refine j_iadd X dX1_takeSign_11 ?_
  obtain ⟨μ2, e_μ2, hf⟩ := bd_e hf
  refine j_put (C := RX1) (T := TX1) (N := 9) X iX1 0 (wB_0 ..) rfl 8 (by decide) k_162 rfl tyX1 tyX1_ok nmX1 rfl (ty := .int) (by decide +kernel) rfl rfl (Nat.le_of_ble_eq_true rfl) dX1_takeSign_12 (ws' := (wB E h g μ2)) (by rw [e_μ2]; exact wB_f0_8 ..) ?_
  refine j_iload_n X dX1_takeSign_15 rfl rfl ?_
  obtain rfl := Option.some.inj hf
  exact j_iret X hr hlk rfl dX1_takeSign_16 hQ
def f_X1_sees (μ : Mem) (x1 : Int32) : Option (Mem × Int32) := (f_X1_nextSign μ).bind fun q1 => ((if q1.2 = x1 then some (q1.1, (1 : Int32)) else some (q1.1, (0 : Int32))))
set_option maxHeartbeats 4000000 in
set_option maxRecDepth 20000 in
theorem c_X1_sees (E : Ev) (h : Nat → Nat) (g : Nat → Option Nat) {μ : Mem} {x1 : Int32} {r : (Mem × Int32)} (hf : f_X1_sees μ x1 = some r) : Ct E yX1_sees cX1_sees 2 (some .boolean) (rmOf 1 20) (wB E h g μ) (wB E h g r.1) [.ref (h 0), .int x1] (some (.int r.2)) := by
  refine ct_start RX1 0 (by decide) rfl (Nat.le_of_ble_eq_true rfl) ?_
  intro p l e s m args below meth c A Q X hr hlk hQ
  rw [f_X1_sees] at hf
  refine j_aload_n X dX1_sees_0 rfl rfl ?_
  obtain ⟨q1, g_q1, hf⟩ := ob_t hf
  refine j_callV X [0, 1, 2, 3, 4] 0 (c_X1_nextSign E h g g_q1) (cut_wB_wB_c ..) rfl rfl (ws' := (wB E h g q1.1)) (cut_wB_wB_w ..) (wB_0 ..) rfl k_552 k_554 k_11 k_77 k_555 (⟨rfl, rfl⟩) hdV_X1_nextSign ⟨Nat.le_of_ble_eq_true rfl, Nat.le_of_ble_eq_true rfl⟩ rfl (Nat.le_of_ble_eq_true rfl) rfl dX1_sees_1 ?_
  refine j_iload_n X dX1_sees_4 rfl rfl ?_
  refine j_icmp_ne (tgt := 12) X dX1_sees_5 (by decide) (fun c_5 => ?_) (fun c_5 => ?_)
  · replace hf := (if_neg c_5).symm.trans hf
    refine j_iconst (v := (0 : Int32)) X dX1_sees_12 (by decide) ?_
    obtain rfl := Option.some.inj hf
    exact j_iret X hr hlk rfl dX1_sees_13 hQ
  · replace hf := (if_pos c_5).symm.trans hf
    refine j_iconst (v := (1 : Int32)) X dX1_sees_8 (by decide) ?_
    refine j_goto (tgt := 13) X dX1_sees_9 (by decide) ?_
    obtain rfl := Option.some.inj hf
    exact j_iret X hr hlk rfl dX1_sees_13 hQ
def f_X1_seesDigit (μ : Mem) : Option (Mem × Int32) := (f_X1_nextSign μ).bind fun q1 => ((if q1.2 < (48 : Int32) then some (q1.1, (0 : Int32)) else (f_X1_nextSign q1.1).bind fun q2 => ((if (57 : Int32) < q2.2 then some (q2.1, (0 : Int32)) else some (q2.1, (1 : Int32))))))
set_option maxHeartbeats 4000000 in
set_option maxRecDepth 20000 in
theorem c_X1_seesDigit (E : Ev) (h : Nat → Nat) (g : Nat → Option Nat) {μ : Mem} {r : (Mem × Int32)} (hf : f_X1_seesDigit μ = some r) : Ct E yX1_seesDigit cX1_seesDigit 1 (some .boolean) (rmOf 1 20) (wB E h g μ) (wB E h g r.1) [.ref (h 0)] (some (.int r.2)) := by
  refine ct_start RX1 0 (by decide) rfl (Nat.le_of_ble_eq_true rfl) ?_
  intro p l e s m args below meth c A Q X hr hlk hQ
  rw [f_X1_seesDigit] at hf
  refine j_aload_n X dX1_seesDigit_0 rfl rfl ?_
  obtain ⟨q1, g_q1, hf⟩ := ob_t hf
  refine j_callV X [0, 1, 2, 3, 4] 0 (c_X1_nextSign E h g g_q1) (cut_wB_wB_c ..) rfl rfl (ws' := (wB E h g q1.1)) (cut_wB_wB_w ..) (wB_0 ..) rfl k_552 k_554 k_11 k_77 k_555 (⟨rfl, rfl⟩) hdV_X1_nextSign ⟨Nat.le_of_ble_eq_true rfl, Nat.le_of_ble_eq_true rfl⟩ rfl (Nat.le_of_ble_eq_true rfl) rfl dX1_seesDigit_1 ?_
  refine j_bipush (v := (48 : Int32)) X dX1_seesDigit_4 (by decide) ?_
  refine j_icmp_lt (tgt := 22) X dX1_seesDigit_6 (by decide) (fun c_6 => ?_) (fun c_6 => ?_)
  · replace hf := (if_pos c_6).symm.trans hf
    refine j_iconst (v := (0 : Int32)) X dX1_seesDigit_22 (by decide) ?_
    obtain rfl := Option.some.inj hf
    exact j_iret X hr hlk rfl dX1_seesDigit_23 hQ
  · replace hf := (if_neg c_6).symm.trans hf
    refine j_aload_n X dX1_seesDigit_9 rfl rfl ?_
    obtain ⟨q2, g_q2, hf⟩ := ob_t hf
    refine j_callV X [0, 1, 2, 3, 4] 0 (c_X1_nextSign E h g g_q2) (cut_wB_wB_c ..) rfl rfl (ws' := (wB E h g q2.1)) (cut_wB_wB_w ..) (wB_0 ..) rfl k_552 k_554 k_11 k_77 k_555 (⟨rfl, rfl⟩) hdV_X1_nextSign ⟨Nat.le_of_ble_eq_true rfl, Nat.le_of_ble_eq_true rfl⟩ rfl (Nat.le_of_ble_eq_true rfl) rfl dX1_seesDigit_10 ?_
    refine j_bipush (v := (57 : Int32)) X dX1_seesDigit_13 (by decide) ?_
    refine j_icmp_gt (tgt := 22) X dX1_seesDigit_15 (by decide) (fun c_15 => ?_) (fun c_15 => ?_)
    · replace hf := (if_pos c_15).symm.trans hf
      refine j_iconst (v := (0 : Int32)) X dX1_seesDigit_22 (by decide) ?_
      obtain rfl := Option.some.inj hf
      exact j_iret X hr hlk rfl dX1_seesDigit_23 hQ
    · replace hf := (if_neg c_15).symm.trans hf
      refine j_iconst (v := (1 : Int32)) X dX1_seesDigit_18 (by decide) ?_
      refine j_goto (tgt := 23) X dX1_seesDigit_19 (by decide) ?_
      obtain rfl := Option.some.inj hf
      exact j_iret X hr hlk rfl dX1_seesDigit_23 hQ
def f_X1_write (μ : Mem) (x1 : Int32) : Option Mem := (if (60 : Int32) ≤ (μ 0 5) then some μ else (if inb (μ 0 5) 60 = true then bd (upA μ 3 (upd (μ 3) (μ 0 5).toNatClampNeg x1)) fun μ2 => (bd (upA μ2 0 (upd (μ2 0) 5 ((μ2 0 5) + (1 : Int32)))) fun μ3 => (some μ3)) else none))
set_option maxHeartbeats 4000000 in
set_option maxRecDepth 20000 in
theorem c_X1_write (E : Ev) (h : Nat → Nat) (g : Nat → Option Nat) {μ : Mem} {x1 : Int32} {r : Mem} (hf : f_X1_write μ x1 = some r) : Ct E yX1_write cX1_write 2 none (rmOf 0 0) (wB E h g μ) (wB E h g r) [.ref (h 0), .int x1] none := by
  refine ct_start RX1 0 (by decide) rfl (Nat.le_of_ble_eq_true rfl) ?_
  intro p l e s m args below meth c A Q X hr hlk hQ
  rw [f_X1_write] at hf
  refine j_aload_n X dX1_write_0 rfl rfl ?_
  refine j_get (C := RX1) (T := TX1) (N := 9) X iX1 0 (wB_0 ..) rfl 5 (by decide) k_159 rfl rfl dX1_write_1 ?_
  refine j_bipush (v := (60 : Int32)) X dX1_write_4 (by decide) ?_
  refine j_icmp_ge (tgt := 29) X dX1_write_6 (by decide) (fun c_6 => ?_) (fun c_6 => ?_)
  · replace hf := (if_pos c_6).symm.trans hf
    obtain rfl := Option.some.inj hf
    exact j_vret X hr hlk dX1_write_29 hQ
  · replace hf := (if_neg c_6).symm.trans hf
    refine j_aload_n X dX1_write_9 rfl rfl ?_
    refine j_get (C := RX1) (T := TX1) (N := 9) X iX1 0 (wB_0 ..) rfl 4 (by decide) k_158 rfl rfl dX1_write_10 ?_
    refine j_aload_n X dX1_write_13 rfl rfl ?_
    refine j_get (C := RX1) (T := TX1) (N := 9) X iX1 0 (wB_0 ..) rfl 5 (by decide) k_159 rfl rfl dX1_write_14 ?_
    refine j_iload_n X dX1_write_17 rfl rfl ?_
    obtain ⟨c1, hf⟩ := oi_in hf
    obtain ⟨μ2, e_μ2, hf⟩ := bd_e hf
    refine j_iast X 3 (wB_3 ..) c1 dX1_write_18 (ws' := (wB E h g μ2)) (by rw [e_μ2]; exact wB_s3 ..) ?_
    refine j_aload_n X dX1_write_19 rfl rfl ?_
    refine j_dup X dX1_write_20 rfl ?_
    refine j_get (C := RX1) (T := TX1) (N := 9) X iX1 0 (wB_0 ..) rfl 5 (by decide) k_159 rfl rfl dX1_write_21 ?_
    refine j_iconst (v := (1 : Int32)) X dX1_write_24 (by decide) ?_
    refine j_iadd X dX1_write_25 ?_
    obtain ⟨μ3, e_μ3, hf⟩ := bd_e hf
    refine j_put (C := RX1) (T := TX1) (N := 9) X iX1 0 (wB_0 ..) rfl 5 (by decide) k_159 rfl tyX1 tyX1_ok nmX1 rfl (ty := .int) (by decide +kernel) rfl rfl (Nat.le_of_ble_eq_true rfl) dX1_write_26 (ws' := (wB E h g μ3)) (by rw [e_μ3]; exact wB_f0_5 ..) ?_
    obtain rfl := Option.some.inj hf
    exact j_vret X hr hlk dX1_write_29 hQ
def f_X1_readNumber_L4 : Nat → Mem → Int32 → Int32 → Option Mem
  | 0, _, _, _ => none
  | n + 1, μ, x1, x2 => (if (4 : Int32) ≤ x2 then (f_X1_write μ x1).bind fun q1 => (some q1) else (f_X1_seesDigit μ).bind fun q2 => ((if q2.2 = 0 then (f_X1_write q2.1 x1).bind fun q3 => (some q3) else (f_X1_takeSign q2.1).bind fun q4 => (bd (((x1 * (10 : Int32)) + q4.2) - (48 : Int32)) fun y5 => ((f_X1_readNumber_L4 n) q4.1 y5 (x2 + (1 : Int32)))))))
def f_X1_readNumber (μ : Mem) : Option Mem := f_X1_readNumber_L4 fuel0 μ (0 : Int32) (0 : Int32)
set_option maxHeartbeats 4000000 in
set_option maxRecDepth 20000 in
theorem c_X1_readNumber (E : Ev) (h : Nat → Nat) (g : Nat → Option Nat) {μ : Mem} {r : Mem} (hf : f_X1_readNumber μ = some r) : Ct E yX1_readNumber cX1_readNumber 3 none (rmOf 2 41) (wB E h g μ) (wB E h g r) [.ref (h 0)] none := by
  refine ct_start RX1 2 (by decide) rfl (Nat.le_of_ble_eq_true rfl) ?_
  intro p l e s m args below meth c A Q X hr hlk hQ
  have lab4 : ∀ (n : Nat) (μ : Mem) (x1 : Int32) (x2 : Int32), f_X1_readNumber_L4 n μ x1 x2 = some r → J p l e (rmOf 2 41) s m args below meth c E A 3 Q (wB E h g μ) [some (.ref (h 0)), some (.int x1), some (.int x2)] 4 [] := by
    intro n
    induction n with
    | zero => intro μ x1 x2 hf; cases (show none = some r from hf)
    | succ n ih =>
      intro μ x1 x2 hf
      rw [f_X1_readNumber_L4] at hf
      refine j_iload_n X dX1_readNumber_4 rfl rfl ?_
      refine j_iconst (v := (4 : Int32)) X dX1_readNumber_5 (by decide) ?_
      refine j_icmp_ge (tgt := 35) X dX1_readNumber_6 (by decide) (fun c_6 => ?_) (fun c_6 => ?_)
      · replace hf := (if_pos c_6).symm.trans hf
        refine j_aload_n X dX1_readNumber_35 rfl rfl ?_
        refine j_iload_n X dX1_readNumber_36 rfl rfl ?_
        obtain ⟨q1, g_q1, hf⟩ := ob_t hf
        refine j_callV X [0, 1, 2, 3, 4] 0 (c_X1_write E h g g_q1) (cut_wB_wB_c ..) rfl rfl (ws' := (wB E h g q1)) (cut_wB_wB_w ..) (wB_0 ..) rfl k_564 k_566 k_14 k_77 k_567 (⟨rfl, rfl⟩) hdV_X1_write ⟨Nat.le_of_ble_eq_true rfl, Nat.le_of_ble_eq_true rfl⟩ rfl (Nat.le_of_ble_eq_true rfl) rfl dX1_readNumber_37 ?_
        obtain rfl := Option.some.inj hf
        exact j_vret X hr hlk dX1_readNumber_40 hQ
      · replace hf := (if_neg c_6).symm.trans hf
        refine j_aload_n X dX1_readNumber_9 rfl rfl ?_
        obtain ⟨q2, g_q2, hf⟩ := ob_t hf
        refine j_callV X [0, 1, 2, 3, 4] 0 (c_X1_seesDigit E h g g_q2) (cut_wB_wB_c ..) rfl rfl (ws' := (wB E h g q2.1)) (cut_wB_wB_w ..) (wB_0 ..) rfl k_548 k_550 k_10 k_77 k_551 (⟨rfl, rfl⟩) hdV_X1_seesDigit ⟨Nat.le_of_ble_eq_true rfl, Nat.le_of_ble_eq_true rfl⟩ rfl (Nat.le_of_ble_eq_true rfl) rfl dX1_readNumber_10 ?_
        refine j_if_eq (tgt := 35) X dX1_readNumber_13 (by decide) (fun c_13 => ?_) (fun c_13 => ?_)
        · replace hf := (if_pos c_13).symm.trans hf
          refine j_aload_n X dX1_readNumber_35 rfl rfl ?_
          refine j_iload_n X dX1_readNumber_36 rfl rfl ?_
          obtain ⟨q3, g_q3, hf⟩ := ob_t hf
          refine j_callV X [0, 1, 2, 3, 4] 0 (c_X1_write E h g g_q3) (cut_wB_wB_c ..) rfl rfl (ws' := (wB E h g q3)) (cut_wB_wB_w ..) (wB_0 ..) rfl k_564 k_566 k_14 k_77 k_567 (⟨rfl, rfl⟩) hdV_X1_write ⟨Nat.le_of_ble_eq_true rfl, Nat.le_of_ble_eq_true rfl⟩ rfl (Nat.le_of_ble_eq_true rfl) rfl dX1_readNumber_37 ?_
          obtain rfl := Option.some.inj hf
          exact j_vret X hr hlk dX1_readNumber_40 hQ
        · replace hf := (if_neg c_13).symm.trans hf
          refine j_iload_n X dX1_readNumber_16 rfl rfl ?_
          refine j_bipush (v := (10 : Int32)) X dX1_readNumber_17 (by decide) ?_
          refine j_imul X dX1_readNumber_19 ?_
          refine j_aload_n X dX1_readNumber_20 rfl rfl ?_
          obtain ⟨q4, g_q4, hf⟩ := ob_t hf
          refine j_callV X [0, 1, 2, 3, 4] 0 (c_X1_takeSign E h g g_q4) (cut_wB_wB_c ..) rfl rfl (ws' := (wB E h g q4.1)) (cut_wB_wB_w ..) (wB_0 ..) rfl k_560 k_562 k_13 k_77 k_563 (⟨rfl, rfl⟩) hdV_X1_takeSign ⟨Nat.le_of_ble_eq_true rfl, Nat.le_of_ble_eq_true rfl⟩ rfl (Nat.le_of_ble_eq_true rfl) rfl dX1_readNumber_21 ?_
          refine j_iadd X dX1_readNumber_24 ?_
          refine j_bipush (v := (48 : Int32)) X dX1_readNumber_25 (by decide) ?_
          refine j_isub X dX1_readNumber_27 ?_
          obtain ⟨y5, e_y5, hf⟩ := bd_e hf
          refine j_top e_y5 ?_
          refine j_istore_n1 X dX1_readNumber_28 rfl (by decide) rfl ?_
          refine j_iinc2 (k := (1 : Int32)) X dX1_readNumber_29 (by decide) (by decide) rfl ?_
          refine j_goto (tgt := 4) X dX1_readNumber_32 (by decide) ?_
          refine j_keep [true, true, true] rfl ?_
          exact ih _ _ _ hf
  rw [f_X1_readNumber] at hf
  refine j_iconst (v := (0 : Int32)) X dX1_readNumber_0 (by decide) ?_
  refine j_istore_n1 X dX1_readNumber_1 rfl (by decide) rfl ?_
  refine j_iconst (v := (0 : Int32)) X dX1_readNumber_2 (by decide) ?_
  refine j_istore_n2 X dX1_readNumber_3 rfl (by decide) rfl ?_
  refine j_keep [true, true, true] rfl ?_
  exact lab4 _ _ _ _ hf
