def f_X12_divisor_L6 : Nat → Int64 → Int64 → Option Int64
  | 0, _, _ => none
  | n + 1, x4, x6 => (if (lg_cmp x6 (0 : Int64)) = 0 then some x4 else (if ¬ x6 = 0 then bd (x4 - x4 / x6 * x6) fun y2 => ((f_X12_divisor_L6 n) x6 y2) else none))
def f_X12_divisor (x0 : Int64) (x2 : Int64) : Option Int64 := f_X12_divisor_L6 fuel0 x0 x2
set_option maxHeartbeats 4000000 in
set_option maxRecDepth 20000 in
theorem c_X12_divisor (E : Ev) {x0 : Int64} {x2 : Int64} {r : Int64} (hf : f_X12_divisor x0 x2 = some r) : Ct E yX12_divisor cX12_divisor 10 (some .long) (rmOf 0 0) [] [] [.long x0, .long x2] (some (.long r)) := by
  refine ct_start RX12 6 (by decide) rfl (Nat.le_of_ble_eq_true rfl) ?_
  intro p l e s m args below meth c A Q X hr hlk hQ
  have lab6 : ∀ (n : Nat) (x4 : Int64) (x6 : Int64), f_X12_divisor_L6 n x4 x6 = some r → J p l e (rmOf 0 0) s m args below meth c E A 10 Q [] [none, none, none, none, some (.long x4), none, some (.long x6), none, none, none] 6 [] := by
    intro n
    induction n with
    | zero => intro x4 x6 hf; cases (show none = some r from hf)
    | succ n ih =>
      intro x4 x6 hf
      rw [f_X12_divisor_L6] at hf
      refine j_lload X dX12_divisor_6 rfl ?_
      refine j_lconst (v := (0 : Int64)) X dX12_divisor_8 (by decide) ?_
      refine j_lcmp X dX12_divisor_9 ?_
      refine j_if_eq (tgt := 31) X dX12_divisor_10 (by decide) (fun c_10 => ?_) (fun c_10 => ?_)
      · replace hf := (if_pos c_10).symm.trans hf
        refine j_lload X dX12_divisor_31 rfl ?_
        obtain rfl := Option.some.inj hf
        exact j_lret X hr hlk dX12_divisor_33 hQ
      · replace hf := (if_neg c_10).symm.trans hf
        refine j_lload X dX12_divisor_13 rfl ?_
        refine j_lload X dX12_divisor_15 rfl ?_
        obtain ⟨c1, hf⟩ := oi_t hf
        refine j_lrem X dX12_divisor_17 c1 ?_
        obtain ⟨y2, e_y2, hf⟩ := bd_e hf
        refine j_topl e_y2 ?_
        refine j_lstore8 X dX12_divisor_18 (by decide) rfl ?_
        refine j_lload X dX12_divisor_20 rfl ?_
        refine j_lstore4 X dX12_divisor_22 (by decide) rfl ?_
        refine j_lload X dX12_divisor_24 rfl ?_
        refine j_lstore6 X dX12_divisor_26 (by decide) rfl ?_
        refine j_goto (tgt := 6) X dX12_divisor_28 (by decide) ?_
        refine j_keep [false, false, false, false, true, false, true, false, false, false] rfl ?_
        exact ih _ _ hf
  rw [f_X12_divisor] at hf
  refine j_lload_n X dX12_divisor_0 rfl rfl ?_
  refine j_lstore4 X dX12_divisor_1 (by decide) rfl ?_
  refine j_lload_n X dX12_divisor_3 rfl rfl ?_
  refine j_lstore6 X dX12_divisor_4 (by decide) rfl ?_
  refine j_keep [false, false, false, false, true, false, true, false, false, false] rfl ?_
  exact lab6 _ _ _ hf
def f_X12_isSheet (x0 : Int32) : Option Int32 := (f_X12_in x0 (0 : Int32) (3 : Int32)).bind fun q1 => ((if q1 = 0 ∨ q1 = 1 then some q1 else none))
set_option maxHeartbeats 4000000 in
set_option maxRecDepth 20000 in
theorem c_X12_isSheet (E : Ev) {x0 : Int32} {r : Int32} (hf : f_X12_isSheet x0 = some r) : Ct E yX12_isSheet cX12_isSheet 1 (some .boolean) (rmOf 1 22) [] [] [.int x0] (some (.int r)) := by
  refine ct_start RX12 0 (by decide) rfl (Nat.le_of_ble_eq_true rfl) ?_
  intro p l e s m args below meth c A Q X hr hlk hQ
  rw [f_X12_isSheet] at hf
  refine j_iload_n X dX12_isSheet_0 rfl rfl ?_
  refine j_iconst (v := (0 : Int32)) X dX12_isSheet_1 (by decide) ?_
  refine j_iconst (v := (3 : Int32)) X dX12_isSheet_2 (by decide) ?_
  obtain ⟨q1, g_q1, hf⟩ := ob_t hf
  refine j_callS X [] (c_X12_in E g_q1) rfl rfl rfl (ws' := []) rfl k_984 k_985 k_80 k_986 (⟨rfl, rfl⟩) hdS_X12_in ⟨Nat.le_of_ble_eq_true rfl, Nat.le_of_ble_eq_true rfl⟩ rfl (Nat.le_of_ble_eq_true rfl) rfl dX12_isSheet_3 ?_
  obtain ⟨c2, hf⟩ := oi_t hf
  obtain rfl := Option.some.inj hf
  exact j_iret X hr hlk (nb01 c2) dX12_isSheet_6 hQ
def f_X12_slate_L58 : Nat → Mem → Int32 → Int32 → Int64 → Int64 → Int32 → Option (Mem × Int64)
  | 0, _, _, _, _, _, _ => none
  | n + 1, μ, x1, x2, x3, x5, x7 => (if (9 : Int32) ≤ x7 then (if x2 = 0 then some (μ, x3) else some (μ, x5)) else (if inb (((24 : Int32) * x1) + x7) 96 = true then bd (μ 12 (((24 : Int32) * x1) + x7).toNatClampNeg) fun y8 => ((f_X12_in y8 (1 : Int32) (99 : Int32)).bind fun q9 => ((if q9 = 0 then (f_X12_error μ (6 : Int32)).bind fun q17 => (some (q17.1, q17.2.toInt64)) else bd ((x3 * y8.toInt64) + x5) fun y10 => (bd (x5 * y8.toInt64) fun y11 => ((f_X12_divisor y10 y11).bind fun q12 => ((if ¬ q12 = 0 then bd (y10 / q12) fun y14 => ((if ¬ q12 = 0 then bd (y11 / q12) fun y16 => ((f_X12_slate_L58 n) μ x1 x2 y14 y16 (x7 + (1 : Int32))) else none)) else none))))))) else none))
def f_X12_slate (μ : Mem) (x1 : Int32) (x2 : Int32) : Option (Mem × Int64) := (f_X12_isSheet x1).bind fun q1 => ((if q1 = 0 then (f_X12_error μ (1 : Int32)).bind fun q2 => (some (q2.1, q2.2.toInt64)) else (f_X12_in x2 (0 : Int32) (1 : Int32)).bind fun q3 => ((if q3 = 0 then (f_X12_error μ (1 : Int32)).bind fun q19 => (some (q19.1, q19.2.toInt64)) else (if inb x1 4 = true then (if (μ 10 x1.toNatClampNeg) = 0 then (f_X12_error μ (2 : Int32)).bind fun q5 => (some (q5.1, q5.2.toInt64)) else (if inb x1 4 = true then (if (9 : Int32) ≤ (μ 11 x1.toNatClampNeg) then f_X12_slate_L58 fuel0 μ x1 x2 (0 : Int64) (1 : Int64) (0 : Int32) else (f_X12_error μ (2 : Int32)).bind fun q18 => (some (q18.1, q18.2.toInt64))) else none)) else none)))))
set_option maxHeartbeats 4000000 in
set_option maxRecDepth 20000 in
theorem c_X12_slate (E : Ev) (h : Nat → Nat) (g : Nat → Option Nat) {μ : Mem} {x1 : Int32} {x2 : Int32} {r : (Mem × Int64)} (hf : f_X12_slate μ x1 x2 = some r) : Ct E yX12_slate cX12_slate 11 (some .long) (rmOf 2 42) (wM E h g μ) (wM E h g r.1) [.ref (h 0), .int x1, .int x2] (some (.long r.2)) := by
  refine ct_start RX12 8 (by decide) rfl (Nat.le_of_ble_eq_true rfl) ?_
  intro p l e s m args below meth c A Q X hr hlk hQ
  have lab58 : ∀ (n : Nat) (μ : Mem) (x1 : Int32) (x2 : Int32) (x3 : Int64) (x5 : Int64) (x7 : Int32), f_X12_slate_L58 n μ x1 x2 x3 x5 x7 = some r → J p l e (rmOf 2 42) s m args below meth c E A 11 Q (wM E h g μ) [some (.ref (h 0)), some (.int x1), some (.int x2), some (.long x3), none, some (.long x5), none, some (.int x7), none, none, none] 58 [] := by
    intro n
    induction n with
    | zero => intro μ x1 x2 x3 x5 x7 hf; cases (show none = some r from hf)
    | succ n ih =>
      intro μ x1 x2 x3 x5 x7 hf
      rw [f_X12_slate_L58] at hf
      refine j_iload X dX12_slate_58 rfl ?_
      refine j_bipush (v := (9 : Int32)) X dX12_slate_60 (by decide) ?_
      refine j_icmp_ge (tgt := 141) X dX12_slate_62 (by decide) (fun c_62 => ?_) (fun c_62 => ?_)
      · replace hf := (if_pos c_62).symm.trans hf
        refine j_iload_n X dX12_slate_141 rfl rfl ?_
        refine j_if_ne (tgt := 149) X dX12_slate_142 (by decide) (fun c_142 => ?_) (fun c_142 => ?_)
        · replace hf := (if_neg c_142).symm.trans hf
          refine j_lload X dX12_slate_149 rfl ?_
          obtain rfl := Option.some.inj hf
          exact j_lret X hr hlk dX12_slate_151 hQ
        · replace hf := (if_pos c_142).symm.trans hf
          refine j_lload_n X dX12_slate_145 rfl rfl ?_
          refine j_goto (tgt := 151) X dX12_slate_146 (by decide) ?_
          obtain rfl := Option.some.inj hf
          exact j_lret X hr hlk dX12_slate_151 hQ
      · replace hf := (if_neg c_62).symm.trans hf
        refine j_aload_n X dX12_slate_65 rfl rfl ?_
        refine j_get (C := RX12) (T := TX12) (N := 21) X iX12 0 (wM_0 ..) rfl 19 (by decide) k_935 rfl rfl dX12_slate_66 ?_
        refine j_bipush (v := (24 : Int32)) X dX12_slate_69 (by decide) ?_
        refine j_iload_n X dX12_slate_71 rfl rfl ?_
        refine j_imul X dX12_slate_72 ?_
        refine j_iload X dX12_slate_73 rfl ?_
        refine j_iadd X dX12_slate_75 ?_
        obtain ⟨c7, hf⟩ := oi_in hf
        refine j_iald X 12 (wM_12 ..) c7 dX12_slate_76 ?_
        obtain ⟨y8, e_y8, hf⟩ := bd_e hf
        refine j_top e_y8 ?_
        refine j_istore8 X dX12_slate_77 (by decide) rfl ?_
        refine j_iload X dX12_slate_79 rfl ?_
        refine j_iconst (v := (1 : Int32)) X dX12_slate_81 (by decide) ?_
        refine j_bipush (v := (99 : Int32)) X dX12_slate_82 (by decide) ?_
        obtain ⟨q9, g_q9, hf⟩ := ob_t hf
        refine j_callS X [] (c_X12_in E g_q9) rfl rfl rfl (ws' := (wM E h g μ)) rfl k_984 k_985 k_80 k_986 (⟨rfl, rfl⟩) hdS_X12_in ⟨Nat.le_of_ble_eq_true rfl, Nat.le_of_ble_eq_true rfl⟩ rfl (Nat.le_of_ble_eq_true rfl) rfl dX12_slate_84 ?_
        refine j_if_ne (tgt := 98) X dX12_slate_87 (by decide) (fun c_87 => ?_) (fun c_87 => ?_)
        · replace hf := (if_neg c_87).symm.trans hf
          refine j_lload_n X dX12_slate_98 rfl rfl ?_
          refine j_iload X dX12_slate_99 rfl ?_
          refine j_i2l X dX12_slate_101 ?_
          refine j_lmul X dX12_slate_102 ?_
          refine j_lload X dX12_slate_103 rfl ?_
          refine j_ladd X dX12_slate_105 ?_
          obtain ⟨y10, e_y10, hf⟩ := bd_e hf
          refine j_topl e_y10 ?_
          refine j_lstore_n3 X dX12_slate_106 rfl (by decide) rfl ?_
          refine j_lload X dX12_slate_107 rfl ?_
          refine j_iload X dX12_slate_109 rfl ?_
          refine j_i2l X dX12_slate_111 ?_
          refine j_lmul X dX12_slate_112 ?_
          obtain ⟨y11, e_y11, hf⟩ := bd_e hf
          refine j_topl e_y11 ?_
          refine j_lstore5 X dX12_slate_113 (by decide) rfl ?_
          refine j_lload_n X dX12_slate_115 rfl rfl ?_
          refine j_lload X dX12_slate_116 rfl ?_
          obtain ⟨q12, g_q12, hf⟩ := ob_t hf
          refine j_callS X [] (c_X12_divisor E g_q12) rfl rfl rfl (ws' := (wM E h g μ)) rfl k_1244 k_1245 k_80 k_1246 (⟨rfl, rfl⟩) hdS_X12_divisor ⟨Nat.le_of_ble_eq_true rfl, Nat.le_of_ble_eq_true rfl⟩ rfl (Nat.le_of_ble_eq_true rfl) rfl dX12_slate_118 ?_
          refine j_lstore9 X dX12_slate_121 (by decide) rfl ?_
          refine j_lload_n X dX12_slate_123 rfl rfl ?_
          refine j_lload X dX12_slate_124 rfl ?_
          obtain ⟨c13, hf⟩ := oi_t hf
          refine j_ldiv X dX12_slate_126 c13 ?_
          obtain ⟨y14, e_y14, hf⟩ := bd_e hf
          refine j_topl e_y14 ?_
          refine j_lstore_n3 X dX12_slate_127 rfl (by decide) rfl ?_
          refine j_lload X dX12_slate_128 rfl ?_
          refine j_lload X dX12_slate_130 rfl ?_
          obtain ⟨c15, hf⟩ := oi_t hf
          refine j_ldiv X dX12_slate_132 c15 ?_
          obtain ⟨y16, e_y16, hf⟩ := bd_e hf
          refine j_topl e_y16 ?_
          refine j_lstore5 X dX12_slate_133 (by decide) rfl ?_
          refine j_iinc7 (k := (1 : Int32)) X dX12_slate_135 (by decide) (by decide) rfl ?_
          refine j_goto (tgt := 58) X dX12_slate_138 (by decide) ?_
          refine j_keep [true, true, true, true, false, true, false, true, false, false, false] rfl ?_
          exact ih _ _ _ _ _ _ hf
        · replace hf := (if_pos c_87).symm.trans hf
          refine j_aload_n X dX12_slate_90 rfl rfl ?_
          refine j_bipush (v := (6 : Int32)) X dX12_slate_91 (by decide) ?_
          obtain ⟨q17, g_q17, hf⟩ := ob_t hf
          refine j_callV X [0, 1, 2, 3, 4, 5, 6, 7, 8, 9, 10, 11, 12, 13] 0 (c_X12_error E h g g_q17) (cut_wM_wM_c ..) rfl rfl (ws' := (wM E h g q17.1)) (cut_wM_wM_w ..) (wM_0 ..) rfl k_987 k_989 k_24 k_80 k_990 (⟨rfl, rfl⟩) hdV_X12_error ⟨Nat.le_of_ble_eq_true rfl, Nat.le_of_ble_eq_true rfl⟩ rfl (Nat.le_of_ble_eq_true rfl) rfl dX12_slate_93 ?_
          refine j_i2l X dX12_slate_96 ?_
          obtain rfl := Option.some.inj hf
          exact j_lret X hr hlk dX12_slate_97 hQ
  rw [f_X12_slate] at hf
  refine j_iload_n X dX12_slate_0 rfl rfl ?_
  obtain ⟨q1, g_q1, hf⟩ := ob_t hf
  refine j_callS X [] (c_X12_isSheet E g_q1) rfl rfl rfl (ws' := (wM E h g μ)) rfl k_1241 k_1242 k_80 k_1243 (⟨rfl, rfl⟩) hdS_X12_isSheet ⟨Nat.le_of_ble_eq_true rfl, Nat.le_of_ble_eq_true rfl⟩ rfl (Nat.le_of_ble_eq_true rfl) rfl dX12_slate_1 ?_
  refine j_if_eq (tgt := 16) X dX12_slate_4 (by decide) (fun c_4 => ?_) (fun c_4 => ?_)
  · replace hf := (if_pos c_4).symm.trans hf
    refine j_aload_n X dX12_slate_16 rfl rfl ?_
    refine j_iconst (v := (1 : Int32)) X dX12_slate_17 (by decide) ?_
    obtain ⟨q2, g_q2, hf⟩ := ob_t hf
    refine j_callV X [0, 1, 2, 3, 4, 5, 6, 7, 8, 9, 10, 11, 12, 13] 0 (c_X12_error E h g g_q2) (cut_wM_wM_c ..) rfl rfl (ws' := (wM E h g q2.1)) (cut_wM_wM_w ..) (wM_0 ..) rfl k_987 k_989 k_24 k_80 k_990 (⟨rfl, rfl⟩) hdV_X12_error ⟨Nat.le_of_ble_eq_true rfl, Nat.le_of_ble_eq_true rfl⟩ rfl (Nat.le_of_ble_eq_true rfl) rfl dX12_slate_18 ?_
    refine j_i2l X dX12_slate_21 ?_
    obtain rfl := Option.some.inj hf
    exact j_lret X hr hlk dX12_slate_22 hQ
  · replace hf := (if_neg c_4).symm.trans hf
    refine j_iload_n X dX12_slate_7 rfl rfl ?_
    refine j_iconst (v := (0 : Int32)) X dX12_slate_8 (by decide) ?_
    refine j_iconst (v := (1 : Int32)) X dX12_slate_9 (by decide) ?_
    obtain ⟨q3, g_q3, hf⟩ := ob_t hf
    refine j_callS X [] (c_X12_in E g_q3) rfl rfl rfl (ws' := (wM E h g μ)) rfl k_984 k_985 k_80 k_986 (⟨rfl, rfl⟩) hdS_X12_in ⟨Nat.le_of_ble_eq_true rfl, Nat.le_of_ble_eq_true rfl⟩ rfl (Nat.le_of_ble_eq_true rfl) rfl dX12_slate_10 ?_
    refine j_if_ne (tgt := 23) X dX12_slate_13 (by decide) (fun c_13 => ?_) (fun c_13 => ?_)
    · replace hf := (if_neg c_13).symm.trans hf
      refine j_aload_n X dX12_slate_23 rfl rfl ?_
      refine j_get (C := RX12) (T := TX12) (N := 21) X iX12 0 (wM_0 ..) rfl 17 (by decide) k_933 rfl rfl dX12_slate_24 ?_
      refine j_iload_n X dX12_slate_27 rfl rfl ?_
      obtain ⟨c4, hf⟩ := oi_in hf
      refine j_iald X 10 (wM_10 ..) c4 dX12_slate_28 ?_
      refine j_if_eq (tgt := 43) X dX12_slate_29 (by decide) (fun c_29 => ?_) (fun c_29 => ?_)
      · replace hf := (if_pos c_29).symm.trans hf
        refine j_aload_n X dX12_slate_43 rfl rfl ?_
        refine j_iconst (v := (2 : Int32)) X dX12_slate_44 (by decide) ?_
        obtain ⟨q5, g_q5, hf⟩ := ob_t hf
        refine j_callV X [0, 1, 2, 3, 4, 5, 6, 7, 8, 9, 10, 11, 12, 13] 0 (c_X12_error E h g g_q5) (cut_wM_wM_c ..) rfl rfl (ws' := (wM E h g q5.1)) (cut_wM_wM_w ..) (wM_0 ..) rfl k_987 k_989 k_24 k_80 k_990 (⟨rfl, rfl⟩) hdV_X12_error ⟨Nat.le_of_ble_eq_true rfl, Nat.le_of_ble_eq_true rfl⟩ rfl (Nat.le_of_ble_eq_true rfl) rfl dX12_slate_45 ?_
        refine j_i2l X dX12_slate_48 ?_
        obtain rfl := Option.some.inj hf
        exact j_lret X hr hlk dX12_slate_49 hQ
      · replace hf := (if_neg c_29).symm.trans hf
        refine j_aload_n X dX12_slate_32 rfl rfl ?_
        refine j_get (C := RX12) (T := TX12) (N := 21) X iX12 0 (wM_0 ..) rfl 18 (by decide) k_934 rfl rfl dX12_slate_33 ?_
        refine j_iload_n X dX12_slate_36 rfl rfl ?_
        obtain ⟨c6, hf⟩ := oi_in hf
        refine j_iald X 11 (wM_11 ..) c6 dX12_slate_37 ?_
        refine j_bipush (v := (9 : Int32)) X dX12_slate_38 (by decide) ?_
        refine j_icmp_ge (tgt := 50) X dX12_slate_40 (by decide) (fun c_40 => ?_) (fun c_40 => ?_)
        · replace hf := (if_pos c_40).symm.trans hf
          refine j_lconst (v := (0 : Int64)) X dX12_slate_50 (by decide) ?_
          refine j_lstore_n3 X dX12_slate_51 rfl (by decide) rfl ?_
          refine j_lconst (v := (1 : Int64)) X dX12_slate_52 (by decide) ?_
          refine j_lstore5 X dX12_slate_53 (by decide) rfl ?_
          refine j_iconst (v := (0 : Int32)) X dX12_slate_55 (by decide) ?_
          refine j_istore7 X dX12_slate_56 (by decide) rfl ?_
          refine j_keep [true, true, true, true, false, true, false, true, false, false, false] rfl ?_
          exact lab58 _ _ _ _ _ _ _ hf
        · replace hf := (if_neg c_40).symm.trans hf
          refine j_aload_n X dX12_slate_43 rfl rfl ?_
          refine j_iconst (v := (2 : Int32)) X dX12_slate_44 (by decide) ?_
          obtain ⟨q18, g_q18, hf⟩ := ob_t hf
          refine j_callV X [0, 1, 2, 3, 4, 5, 6, 7, 8, 9, 10, 11, 12, 13] 0 (c_X12_error E h g g_q18) (cut_wM_wM_c ..) rfl rfl (ws' := (wM E h g q18.1)) (cut_wM_wM_w ..) (wM_0 ..) rfl k_987 k_989 k_24 k_80 k_990 (⟨rfl, rfl⟩) hdV_X12_error ⟨Nat.le_of_ble_eq_true rfl, Nat.le_of_ble_eq_true rfl⟩ rfl (Nat.le_of_ble_eq_true rfl) rfl dX12_slate_45 ?_
          refine j_i2l X dX12_slate_48 ?_
          obtain rfl := Option.some.inj hf
          exact j_lret X hr hlk dX12_slate_49 hQ
    · replace hf := (if_pos c_13).symm.trans hf
      refine j_aload_n X dX12_slate_16 rfl rfl ?_
      refine j_iconst (v := (1 : Int32)) X dX12_slate_17 (by decide) ?_
      obtain ⟨q19, g_q19, hf⟩ := ob_t hf
      refine j_callV X [0, 1, 2, 3, 4, 5, 6, 7, 8, 9, 10, 11, 12, 13] 0 (c_X12_error E h g g_q19) (cut_wM_wM_c ..) rfl rfl (ws' := (wM E h g q19.1)) (cut_wM_wM_w ..) (wM_0 ..) rfl k_987 k_989 k_24 k_80 k_990 (⟨rfl, rfl⟩) hdV_X12_error ⟨Nat.le_of_ble_eq_true rfl, Nat.le_of_ble_eq_true rfl⟩ rfl (Nat.le_of_ble_eq_true rfl) rfl dX12_slate_18 ?_
      refine j_i2l X dX12_slate_21 ?_
      obtain rfl := Option.some.inj hf
      exact j_lret X hr hlk dX12_slate_22 hQ
def f_X12_voice_L94 (μ : Mem) (t0 : Int32) : Option (Mem × Int32) := (if (μ 0 16) = 0 then some (μ, t0) else (f_X12_error μ (6 : Int32)).bind fun q9 => (some (q9.1, q9.2)))
def f_X12_voice (μ : Mem) (x1 : Int32) (x2 : Int32) (x3 : Int32) : Option (Mem × Int32) := (f_X12_isOne x1).bind fun q1 => ((if q1 = 0 then (f_X12_error μ (1 : Int32)).bind fun q2 => (some (q2.1, q2.2)) else (f_X12_in x2 (0 : Int32) (3 : Int32)).bind fun q3 => ((if q3 = 0 then (f_X12_error μ (1 : Int32)).bind fun q13 => (some (q13.1, q13.2)) else bd (upA μ 0 (upd (μ 0) 14 (0 : Int32))) fun μ4 => (bd (upA μ4 0 (upd (μ4 0) 15 x1)) fun μ5 => (bd (upA μ5 0 (upd (μ5 0) 16 (0 : Int32))) fun μ6 => ((f_X12_kindNow μ6).bind fun q7 => ((if x2 = 0 then (f_X12_holdsAs q7.1 q7.2 x3).bind fun q12 => (f_X12_voice_L94 q12.1 q12.2) else (if x2 = (1 : Int32) then (f_X12_leansAs q7.1 q7.2 x3).bind fun q11 => (f_X12_voice_L94 q11.1 q11.2) else (if x2 = (2 : Int32) then (f_X12_swaysAs q7.1 q7.2 x3).bind fun q10 => (f_X12_voice_L94 q10.1 q10.2) else (f_X12_partsAs q7.1 q7.2 x3).bind fun q8 => (f_X12_voice_L94 q8.1 q8.2))))))))))))
set_option maxHeartbeats 4000000 in
set_option maxRecDepth 20000 in
theorem c_X12_voice (E : Ev) (h : Nat → Nat) (g : Nat → Option Nat) {μ : Mem} {x1 : Int32} {x2 : Int32} {x3 : Int32} {r : (Mem × Int32)} (hf : f_X12_voice μ x1 x2 x3 = some r) : Ct E yX12_voice cX12_voice 6 (some .int) (rmOf 585 12872) (wM E h g μ) (wM E h g r.1) [.ref (h 0), .int x1, .int x2, .int x3] (some (.int r.2)) := by
  refine ct_start RX12 2 (by decide) rfl (Nat.le_of_ble_eq_true rfl) ?_
  intro p l e s m args below meth c A Q X hr hlk hQ
  have lab94 : ∀ (μ : Mem) (t0 : Int32), f_X12_voice_L94 μ t0 = some r → J p l e (rmOf 585 12872) s m args below meth c E A 6 Q (wM E h g μ) [some (.ref (h 0)), none, none, none, none, none] 94 [.int t0] := by
    intro  μ t0 hf
    rw [f_X12_voice_L94] at hf
    refine j_istore5 X dX12_voice_94 (by decide) rfl ?_
    refine j_aload_n X dX12_voice_96 rfl rfl ?_
    refine j_get (C := RX12) (T := TX12) (N := 21) X iX12 0 (wM_0 ..) rfl 16 (by decide) k_932 rfl rfl dX12_voice_97 ?_
    refine j_if_eq (tgt := 112) X dX12_voice_100 (by decide) (fun c_100 => ?_) (fun c_100 => ?_)
    · replace hf := (if_pos c_100).symm.trans hf
      refine j_iload X dX12_voice_112 rfl ?_
      obtain rfl := Option.some.inj hf
      exact j_iret X hr hlk rfl dX12_voice_114 hQ
    · replace hf := (if_neg c_100).symm.trans hf
      refine j_aload_n X dX12_voice_103 rfl rfl ?_
      refine j_bipush (v := (6 : Int32)) X dX12_voice_104 (by decide) ?_
      obtain ⟨q9, g_q9, hf⟩ := ob_t hf
      refine j_callV X [0, 1, 2, 3, 4, 5, 6, 7, 8, 9, 10, 11, 12, 13] 0 (c_X12_error E h g g_q9) (cut_wM_wM_c ..) rfl rfl (ws' := (wM E h g q9.1)) (cut_wM_wM_w ..) (wM_0 ..) rfl k_987 k_989 k_24 k_80 k_990 (⟨rfl, rfl⟩) hdV_X12_error ⟨Nat.le_of_ble_eq_true rfl, Nat.le_of_ble_eq_true rfl⟩ rfl (Nat.le_of_ble_eq_true rfl) rfl dX12_voice_106 ?_
      refine j_goto (tgt := 114) X dX12_voice_109 (by decide) ?_
      obtain rfl := Option.some.inj hf
      exact j_iret X hr hlk rfl dX12_voice_114 hQ
  rw [f_X12_voice] at hf
  refine j_iload_n X dX12_voice_0 rfl rfl ?_
  obtain ⟨q1, g_q1, hf⟩ := ob_t hf
  refine j_callS X [] (c_X12_isOne E g_q1) rfl rfl rfl (ws' := (wM E h g μ)) rfl k_1049 k_1050 k_80 k_1051 (⟨rfl, rfl⟩) hdS_X12_isOne ⟨Nat.le_of_ble_eq_true rfl, Nat.le_of_ble_eq_true rfl⟩ rfl (Nat.le_of_ble_eq_true rfl) rfl dX12_voice_1 ?_
  refine j_if_eq (tgt := 16) X dX12_voice_4 (by decide) (fun c_4 => ?_) (fun c_4 => ?_)
  · replace hf := (if_pos c_4).symm.trans hf
    refine j_aload_n X dX12_voice_16 rfl rfl ?_
    refine j_iconst (v := (1 : Int32)) X dX12_voice_17 (by decide) ?_
    obtain ⟨q2, g_q2, hf⟩ := ob_t hf
    refine j_callV X [0, 1, 2, 3, 4, 5, 6, 7, 8, 9, 10, 11, 12, 13] 0 (c_X12_error E h g g_q2) (cut_wM_wM_c ..) rfl rfl (ws' := (wM E h g q2.1)) (cut_wM_wM_w ..) (wM_0 ..) rfl k_987 k_989 k_24 k_80 k_990 (⟨rfl, rfl⟩) hdV_X12_error ⟨Nat.le_of_ble_eq_true rfl, Nat.le_of_ble_eq_true rfl⟩ rfl (Nat.le_of_ble_eq_true rfl) rfl dX12_voice_18 ?_
    obtain rfl := Option.some.inj hf
    exact j_iret X hr hlk rfl dX12_voice_21 hQ
  · replace hf := (if_neg c_4).symm.trans hf
    refine j_iload_n X dX12_voice_7 rfl rfl ?_
    refine j_iconst (v := (0 : Int32)) X dX12_voice_8 (by decide) ?_
    refine j_iconst (v := (3 : Int32)) X dX12_voice_9 (by decide) ?_
    obtain ⟨q3, g_q3, hf⟩ := ob_t hf
    refine j_callS X [] (c_X12_in E g_q3) rfl rfl rfl (ws' := (wM E h g μ)) rfl k_984 k_985 k_80 k_986 (⟨rfl, rfl⟩) hdS_X12_in ⟨Nat.le_of_ble_eq_true rfl, Nat.le_of_ble_eq_true rfl⟩ rfl (Nat.le_of_ble_eq_true rfl) rfl dX12_voice_10 ?_
    refine j_if_ne (tgt := 22) X dX12_voice_13 (by decide) (fun c_13 => ?_) (fun c_13 => ?_)
    · replace hf := (if_neg c_13).symm.trans hf
      refine j_aload_n X dX12_voice_22 rfl rfl ?_
      refine j_iconst (v := (0 : Int32)) X dX12_voice_23 (by decide) ?_
      obtain ⟨μ4, e_μ4, hf⟩ := bd_e hf
      refine j_put (C := RX12) (T := TX12) (N := 21) X iX12 0 (wM_0 ..) rfl 14 (by decide) k_930 rfl tyX12 tyX12_ok nmX12 rfl (ty := .int) (by decide +kernel) rfl rfl (Nat.le_of_ble_eq_true rfl) dX12_voice_24 (ws' := (wM E h g μ4)) (by rw [e_μ4]; exact wM_f0_14 ..) ?_
      refine j_aload_n X dX12_voice_27 rfl rfl ?_
      refine j_iload_n X dX12_voice_28 rfl rfl ?_
      obtain ⟨μ5, e_μ5, hf⟩ := bd_e hf
      refine j_put (C := RX12) (T := TX12) (N := 21) X iX12 0 (wM_0 ..) rfl 15 (by decide) k_931 rfl tyX12 tyX12_ok nmX12 rfl (ty := .int) (by decide +kernel) rfl rfl (Nat.le_of_ble_eq_true rfl) dX12_voice_29 (ws' := (wM E h g μ5)) (by rw [e_μ5]; exact wM_f0_15 ..) ?_
      refine j_aload_n X dX12_voice_32 rfl rfl ?_
      refine j_iconst (v := (0 : Int32)) X dX12_voice_33 (by decide) ?_
      obtain ⟨μ6, e_μ6, hf⟩ := bd_e hf
      refine j_put (C := RX12) (T := TX12) (N := 21) X iX12 0 (wM_0 ..) rfl 16 (by decide) k_932 rfl tyX12 tyX12_ok nmX12 rfl (ty := .boolean) (by decide +kernel) rfl rfl (Nat.le_of_ble_eq_true rfl) dX12_voice_34 (ws' := (wM E h g μ6)) (by rw [e_μ6]; exact wM_f0_16 ..) ?_
      refine j_aload_n X dX12_voice_37 rfl rfl ?_
      obtain ⟨q7, g_q7, hf⟩ := ob_t hf
      refine j_callV X [0, 1, 2, 3, 4, 5, 6, 7, 8, 9, 10, 11, 12, 13] 0 (c_X12_kindNow E h g g_q7) (cut_wM_wM_c ..) rfl rfl (ws' := (wM E h g q7.1)) (cut_wM_wM_w ..) (wM_0 ..) rfl k_1251 k_1253 k_59 k_80 k_1254 (⟨rfl, rfl⟩) hdV_X12_kindNow ⟨Nat.le_of_ble_eq_true rfl, Nat.le_of_ble_eq_true rfl⟩ rfl (Nat.le_of_ble_eq_true rfl) rfl dX12_voice_38 ?_
      refine j_istore4 X dX12_voice_41 (by decide) rfl ?_
      refine j_iload_n X dX12_voice_43 rfl rfl ?_
      refine j_if_ne (tgt := 57) X dX12_voice_44 (by decide) (fun c_44 => ?_) (fun c_44 => ?_)
      · replace hf := (if_neg c_44).symm.trans hf
        refine j_iload_n X dX12_voice_57 rfl rfl ?_
        refine j_iconst (v := (1 : Int32)) X dX12_voice_58 (by decide) ?_
        refine j_icmp_ne (tgt := 72) X dX12_voice_59 (by decide) (fun c_59 => ?_) (fun c_59 => ?_)
        · replace hf := (if_neg c_59).symm.trans hf
          refine j_iload_n X dX12_voice_72 rfl rfl ?_
          refine j_iconst (v := (2 : Int32)) X dX12_voice_73 (by decide) ?_
          refine j_icmp_ne (tgt := 87) X dX12_voice_74 (by decide) (fun c_74 => ?_) (fun c_74 => ?_)
          · replace hf := (if_neg c_74).symm.trans hf
            refine j_aload_n X dX12_voice_87 rfl rfl ?_
            refine j_iload X dX12_voice_88 rfl ?_
            refine j_iload_n X dX12_voice_90 rfl rfl ?_
            obtain ⟨q8, g_q8, hf⟩ := ob_t hf
            refine j_callV X [0, 1, 2, 3, 4, 5, 6, 7, 8, 9, 10, 11, 12, 13] 0 (c_X12_partsAs E h g g_q8) (cut_wM_wM_c ..) rfl rfl (ws' := (wM E h g q8.1)) (cut_wM_wM_w ..) (wM_0 ..) rfl k_1278 k_1280 k_65 k_80 k_1281 (⟨rfl, rfl⟩) hdV_X12_partsAs ⟨Nat.le_of_ble_eq_true rfl, Nat.le_of_ble_eq_true rfl⟩ rfl (Nat.le_of_ble_eq_true rfl) rfl dX12_voice_91 ?_
            refine j_keep [true, false, false, false, false, false] rfl ?_
            exact lab94 _ _ hf
          · replace hf := (if_pos c_74).symm.trans hf
            refine j_aload_n X dX12_voice_77 rfl rfl ?_
            refine j_iload X dX12_voice_78 rfl ?_
            refine j_iload_n X dX12_voice_80 rfl rfl ?_
            obtain ⟨q10, g_q10, hf⟩ := ob_t hf
            refine j_callV X [0, 1, 2, 3, 4, 5, 6, 7, 8, 9, 10, 11, 12, 13] 0 (c_X12_swaysAs E h g g_q10) (cut_wM_wM_c ..) rfl rfl (ws' := (wM E h g q10.1)) (cut_wM_wM_w ..) (wM_0 ..) rfl k_1274 k_1276 k_64 k_80 k_1277 (⟨rfl, rfl⟩) hdV_X12_swaysAs ⟨Nat.le_of_ble_eq_true rfl, Nat.le_of_ble_eq_true rfl⟩ rfl (Nat.le_of_ble_eq_true rfl) rfl dX12_voice_81 ?_
            refine j_goto (tgt := 94) X dX12_voice_84 (by decide) ?_
            refine j_keep [true, false, false, false, false, false] rfl ?_
            exact lab94 _ _ hf
        · replace hf := (if_pos c_59).symm.trans hf
          refine j_aload_n X dX12_voice_62 rfl rfl ?_
          refine j_iload X dX12_voice_63 rfl ?_
          refine j_iload_n X dX12_voice_65 rfl rfl ?_
          obtain ⟨q11, g_q11, hf⟩ := ob_t hf
          refine j_callV X [0, 1, 2, 3, 4, 5, 6, 7, 8, 9, 10, 11, 12, 13] 0 (c_X12_leansAs E h g g_q11) (cut_wM_wM_c ..) rfl rfl (ws' := (wM E h g q11.1)) (cut_wM_wM_w ..) (wM_0 ..) rfl k_1266 k_1268 k_62 k_80 k_1269 (⟨rfl, rfl⟩) hdV_X12_leansAs ⟨Nat.le_of_ble_eq_true rfl, Nat.le_of_ble_eq_true rfl⟩ rfl (Nat.le_of_ble_eq_true rfl) rfl dX12_voice_66 ?_
          refine j_goto (tgt := 94) X dX12_voice_69 (by decide) ?_
          refine j_keep [true, false, false, false, false, false] rfl ?_
          exact lab94 _ _ hf
      · replace hf := (if_pos c_44).symm.trans hf
        refine j_aload_n X dX12_voice_47 rfl rfl ?_
        refine j_iload X dX12_voice_48 rfl ?_
        refine j_iload_n X dX12_voice_50 rfl rfl ?_
        obtain ⟨q12, g_q12, hf⟩ := ob_t hf
        refine j_callV X [0, 1, 2, 3, 4, 5, 6, 7, 8, 9, 10, 11, 12, 13] 0 (c_X12_holdsAs E h g g_q12) (cut_wM_wM_c ..) rfl rfl (ws' := (wM E h g q12.1)) (cut_wM_wM_w ..) (wM_0 ..) rfl k_1255 k_1257 k_60 k_80 k_1258 (⟨rfl, rfl⟩) hdV_X12_holdsAs ⟨Nat.le_of_ble_eq_true rfl, Nat.le_of_ble_eq_true rfl⟩ rfl (Nat.le_of_ble_eq_true rfl) rfl dX12_voice_51 ?_
        refine j_goto (tgt := 94) X dX12_voice_54 (by decide) ?_
        refine j_keep [true, false, false, false, false, false] rfl ?_
        exact lab94 _ _ hf
    · replace hf := (if_pos c_13).symm.trans hf
      refine j_aload_n X dX12_voice_16 rfl rfl ?_
      refine j_iconst (v := (1 : Int32)) X dX12_voice_17 (by decide) ?_
      obtain ⟨q13, g_q13, hf⟩ := ob_t hf
      refine j_callV X [0, 1, 2, 3, 4, 5, 6, 7, 8, 9, 10, 11, 12, 13] 0 (c_X12_error E h g g_q13) (cut_wM_wM_c ..) rfl rfl (ws' := (wM E h g q13.1)) (cut_wM_wM_w ..) (wM_0 ..) rfl k_987 k_989 k_24 k_80 k_990 (⟨rfl, rfl⟩) hdV_X12_error ⟨Nat.le_of_ble_eq_true rfl, Nat.le_of_ble_eq_true rfl⟩ rfl (Nat.le_of_ble_eq_true rfl) rfl dX12_voice_18 ?_
      obtain rfl := Option.some.inj hf
      exact j_iret X hr hlk rfl dX12_voice_21 hQ
def f_X12_body (μ : Mem) (x1 : Int32) : Option (Mem × Int32) := (f_X12_in x1 (0 : Int32) ((μ 0 14) - (1 : Int32))).bind fun q1 => ((if q1 = 0 then (f_X12_error μ (2 : Int32)).bind fun q2 => (some (q2.1, q2.2)) else (if inb x1 30 = true then some (μ, (μ 9 x1.toNatClampNeg)) else none)))
set_option maxHeartbeats 4000000 in
set_option maxRecDepth 20000 in
theorem c_X12_body (E : Ev) (h : Nat → Nat) (g : Nat → Option Nat) {μ : Mem} {x1 : Int32} {r : (Mem × Int32)} (hf : f_X12_body μ x1 = some r) : Ct E yX12_body cX12_body 2 (some .int) (rmOf 1 22) (wM E h g μ) (wM E h g r.1) [.ref (h 0), .int x1] (some (.int r.2)) := by
  refine ct_start RX12 0 (by decide) rfl (Nat.le_of_ble_eq_true rfl) ?_
  intro p l e s m args below meth c A Q X hr hlk hQ
  rw [f_X12_body] at hf
  refine j_iload_n X dX12_body_0 rfl rfl ?_
  refine j_iconst (v := (0 : Int32)) X dX12_body_1 (by decide) ?_
  refine j_aload_n X dX12_body_2 rfl rfl ?_
  refine j_get (C := RX12) (T := TX12) (N := 21) X iX12 0 (wM_0 ..) rfl 14 (by decide) k_930 rfl rfl dX12_body_3 ?_
  refine j_iconst (v := (1 : Int32)) X dX12_body_6 (by decide) ?_
  refine j_isub X dX12_body_7 ?_
  obtain ⟨q1, g_q1, hf⟩ := ob_t hf
  refine j_callS X [] (c_X12_in E g_q1) rfl rfl rfl (ws' := (wM E h g μ)) rfl k_984 k_985 k_80 k_986 (⟨rfl, rfl⟩) hdS_X12_in ⟨Nat.le_of_ble_eq_true rfl, Nat.le_of_ble_eq_true rfl⟩ rfl (Nat.le_of_ble_eq_true rfl) rfl dX12_body_8 ?_
  refine j_if_eq (tgt := 23) X dX12_body_11 (by decide) (fun c_11 => ?_) (fun c_11 => ?_)
  · replace hf := (if_pos c_11).symm.trans hf
    refine j_aload_n X dX12_body_23 rfl rfl ?_
    refine j_iconst (v := (2 : Int32)) X dX12_body_24 (by decide) ?_
    obtain ⟨q2, g_q2, hf⟩ := ob_t hf
    refine j_callV X [0, 1, 2, 3, 4, 5, 6, 7, 8, 9, 10, 11, 12, 13] 0 (c_X12_error E h g g_q2) (cut_wM_wM_c ..) rfl rfl (ws' := (wM E h g q2.1)) (cut_wM_wM_w ..) (wM_0 ..) rfl k_987 k_989 k_24 k_80 k_990 (⟨rfl, rfl⟩) hdV_X12_error ⟨Nat.le_of_ble_eq_true rfl, Nat.le_of_ble_eq_true rfl⟩ rfl (Nat.le_of_ble_eq_true rfl) rfl dX12_body_25 ?_
    obtain rfl := Option.some.inj hf
    exact j_iret X hr hlk rfl dX12_body_28 hQ
  · replace hf := (if_neg c_11).symm.trans hf
    refine j_aload_n X dX12_body_14 rfl rfl ?_
    refine j_get (C := RX12) (T := TX12) (N := 21) X iX12 0 (wM_0 ..) rfl 13 (by decide) k_929 rfl rfl dX12_body_15 ?_
    refine j_iload_n X dX12_body_18 rfl rfl ?_
    obtain ⟨c3, hf⟩ := oi_in hf
    refine j_iald X 9 (wM_9 ..) c3 dX12_body_19 ?_
    refine j_goto (tgt := 28) X dX12_body_20 (by decide) ?_
    obtain rfl := Option.some.inj hf
    exact j_iret X hr hlk rfl dX12_body_28 hQ
def f_X12_sheet_L90 : Nat → Mem → Int32 → Int32 → Option (Mem × Int32)
  | 0, _, _, _ => none
  | n + 1, μ, x1, x4 => (if (24 : Int32) ≤ x4 then some (μ, (1 : Int32)) else (if inb (((24 : Int32) * x1) + x4) 96 = true then bd (upA μ 12 (upd (μ 12) (((24 : Int32) * x1) + x4).toNatClampNeg (0 : Int32))) fun μ8 => ((f_X12_sheet_L90 n) μ8 x1 (x4 + (1 : Int32))) else none))
def f_X12_sheet_L65 (μ : Mem) (x1 : Int32) (x2 : Int32) (x3 : Int32) : Option (Mem × Int32) := (if inb x1 4 = true then bd (upA μ 10 (upd (μ 10) x1.toNatClampNeg x2)) fun μ4 => ((if x2 = 0 then (if inb x1 4 = true then bd (upA μ4 11 (upd (μ4 11) x1.toNatClampNeg (0 : Int32))) fun μ10 => (f_X12_sheet_L90 fuel0 μ10 x1 (0 : Int32)) else none) else (if inb x1 4 = true then bd (upA μ4 11 (upd (μ4 11) x1.toNatClampNeg x3)) fun μ6 => (f_X12_sheet_L90 fuel0 μ6 x1 (0 : Int32)) else none))) else none)
def f_X12_sheet_L49 (μ : Mem) (x1 : Int32) (x2 : Int32) (x3 : Int32) : Option (Mem × Int32) := (if x2 = 0 then f_X12_sheet_L65 μ x1 x2 x3 else (if x3 ≤ (24 : Int32) then f_X12_sheet_L65 μ x1 x2 x3 else (f_X12_error μ (1 : Int32)).bind fun q11 => (some (q11.1, q11.2))))
def f_X12_sheet_L35 (μ : Mem) (x1 : Int32) (x2 : Int32) (x3 : Int32) : Option (Mem × Int32) := (if x2 = 0 then f_X12_sheet_L49 μ x1 x2 x3 else (if 0 ≤ x3 then f_X12_sheet_L49 μ x1 x2 x3 else (f_X12_error μ (3 : Int32)).bind fun q12 => (some (q12.1, q12.2))))
def f_X12_sheet (μ : Mem) (x1 : Int32) (x2 : Int32) (x3 : Int32) : Option (Mem × Int32) := (f_X12_isSheet x1).bind fun q1 => ((if q1 = 0 then (f_X12_error μ (1 : Int32)).bind fun q2 => (some (q2.1, q2.2)) else (if x2 = 0 then f_X12_sheet_L35 μ x1 x2 x3 else (if x2 = (8 : Int32) then f_X12_sheet_L35 μ x1 x2 x3 else (if x2 = (16 : Int32) then f_X12_sheet_L35 μ x1 x2 x3 else (if x2 = (32 : Int32) then f_X12_sheet_L35 μ x1 x2 x3 else (f_X12_error μ (1 : Int32)).bind fun q13 => (some (q13.1, q13.2))))))))
set_option maxHeartbeats 4000000 in
set_option maxRecDepth 20000 in
theorem c_X12_sheet (E : Ev) (h : Nat → Nat) (g : Nat → Option Nat) {μ : Mem} {x1 : Int32} {x2 : Int32} {x3 : Int32} {r : (Mem × Int32)} (hf : f_X12_sheet μ x1 x2 x3 = some r) : Ct E yX12_sheet cX12_sheet 5 (some .int) (rmOf 2 42) (wM E h g μ) (wM E h g r.1) [.ref (h 0), .int x1, .int x2, .int x3] (some (.int r.2)) := by
  refine ct_start RX12 1 (by decide) rfl (Nat.le_of_ble_eq_true rfl) ?_
  intro p l e s m args below meth c A Q X hr hlk hQ
  have lab90 : ∀ (n : Nat) (μ : Mem) (x1 : Int32) (x4 : Int32), f_X12_sheet_L90 n μ x1 x4 = some r → J p l e (rmOf 2 42) s m args below meth c E A 5 Q (wM E h g μ) [some (.ref (h 0)), some (.int x1), none, none, some (.int x4)] 90 [] := by
    intro n
    induction n with
    | zero => intro μ x1 x4 hf; cases (show none = some r from hf)
    | succ n ih =>
      intro μ x1 x4 hf
      rw [f_X12_sheet_L90] at hf
      refine j_iload X dX12_sheet_90 rfl ?_
      refine j_bipush (v := (24 : Int32)) X dX12_sheet_92 (by decide) ?_
      refine j_icmp_ge (tgt := 116) X dX12_sheet_94 (by decide) (fun c_94 => ?_) (fun c_94 => ?_)
      · replace hf := (if_pos c_94).symm.trans hf
        refine j_iconst (v := (1 : Int32)) X dX12_sheet_116 (by decide) ?_
        obtain rfl := Option.some.inj hf
        exact j_iret X hr hlk rfl dX12_sheet_117 hQ
      · replace hf := (if_neg c_94).symm.trans hf
        refine j_aload_n X dX12_sheet_97 rfl rfl ?_
        refine j_get (C := RX12) (T := TX12) (N := 21) X iX12 0 (wM_0 ..) rfl 19 (by decide) k_935 rfl rfl dX12_sheet_98 ?_
        refine j_bipush (v := (24 : Int32)) X dX12_sheet_101 (by decide) ?_
        refine j_iload_n X dX12_sheet_103 rfl rfl ?_
        refine j_imul X dX12_sheet_104 ?_
        refine j_iload X dX12_sheet_105 rfl ?_
        refine j_iadd X dX12_sheet_107 ?_
        refine j_iconst (v := (0 : Int32)) X dX12_sheet_108 (by decide) ?_
        obtain ⟨c7, hf⟩ := oi_in hf
        obtain ⟨μ8, e_μ8, hf⟩ := bd_e hf
        refine j_iast X 12 (wM_12 ..) c7 dX12_sheet_109 (ws' := (wM E h g μ8)) (by rw [e_μ8]; exact wM_s12 ..) ?_
        refine j_iinc4 (k := (1 : Int32)) X dX12_sheet_110 (by decide) (by decide) rfl ?_
        refine j_goto (tgt := 90) X dX12_sheet_113 (by decide) ?_
        refine j_keep [true, true, false, false, true] rfl ?_
        exact ih _ _ _ hf
  have lab65 : ∀ (μ : Mem) (x1 : Int32) (x2 : Int32) (x3 : Int32), f_X12_sheet_L65 μ x1 x2 x3 = some r → J p l e (rmOf 2 42) s m args below meth c E A 5 Q (wM E h g μ) [some (.ref (h 0)), some (.int x1), some (.int x2), some (.int x3), none] 65 [] := by
    intro  μ x1 x2 x3 hf
    rw [f_X12_sheet_L65] at hf
    refine j_aload_n X dX12_sheet_65 rfl rfl ?_
    refine j_get (C := RX12) (T := TX12) (N := 21) X iX12 0 (wM_0 ..) rfl 17 (by decide) k_933 rfl rfl dX12_sheet_66 ?_
    refine j_iload_n X dX12_sheet_69 rfl rfl ?_
    refine j_iload_n X dX12_sheet_70 rfl rfl ?_
    obtain ⟨c3, hf⟩ := oi_in hf
    obtain ⟨μ4, e_μ4, hf⟩ := bd_e hf
    refine j_iast X 10 (wM_10 ..) c3 dX12_sheet_71 (ws' := (wM E h g μ4)) (by rw [e_μ4]; exact wM_s10 ..) ?_
    refine j_aload_n X dX12_sheet_72 rfl rfl ?_
    refine j_get (C := RX12) (T := TX12) (N := 21) X iX12 0 (wM_0 ..) rfl 18 (by decide) k_934 rfl rfl dX12_sheet_73 ?_
    refine j_iload_n X dX12_sheet_76 rfl rfl ?_
    refine j_iload_n X dX12_sheet_77 rfl rfl ?_
    refine j_if_ne (tgt := 85) X dX12_sheet_78 (by decide) (fun c_78 => ?_) (fun c_78 => ?_)
    · replace hf := (if_neg c_78).symm.trans hf
      refine j_iload_n X dX12_sheet_85 rfl rfl ?_
      obtain ⟨c5, hf⟩ := oi_in hf
      obtain ⟨μ6, e_μ6, hf⟩ := bd_e hf
      refine j_iast X 11 (wM_11 ..) c5 dX12_sheet_86 (ws' := (wM E h g μ6)) (by rw [e_μ6]; exact wM_s11 ..) ?_
      refine j_iconst (v := (0 : Int32)) X dX12_sheet_87 (by decide) ?_
      refine j_istore4 X dX12_sheet_88 (by decide) rfl ?_
      refine j_keep [true, true, false, false, true] rfl ?_
      exact lab90 _ _ _ _ hf
    · replace hf := (if_pos c_78).symm.trans hf
      refine j_iconst (v := (0 : Int32)) X dX12_sheet_81 (by decide) ?_
      refine j_goto (tgt := 86) X dX12_sheet_82 (by decide) ?_
      obtain ⟨c9, hf⟩ := oi_in hf
      obtain ⟨μ10, e_μ10, hf⟩ := bd_e hf
      refine j_iast X 11 (wM_11 ..) c9 dX12_sheet_86 (ws' := (wM E h g μ10)) (by rw [e_μ10]; exact wM_s11 ..) ?_
      refine j_iconst (v := (0 : Int32)) X dX12_sheet_87 (by decide) ?_
      refine j_istore4 X dX12_sheet_88 (by decide) rfl ?_
      refine j_keep [true, true, false, false, true] rfl ?_
      exact lab90 _ _ _ _ hf
  have lab49 : ∀ (μ : Mem) (x1 : Int32) (x2 : Int32) (x3 : Int32), f_X12_sheet_L49 μ x1 x2 x3 = some r → J p l e (rmOf 2 42) s m args below meth c E A 5 Q (wM E h g μ) [some (.ref (h 0)), some (.int x1), some (.int x2), some (.int x3), none] 49 [] := by
    intro  μ x1 x2 x3 hf
    rw [f_X12_sheet_L49] at hf
    refine j_iload_n X dX12_sheet_49 rfl rfl ?_
    refine j_if_eq (tgt := 65) X dX12_sheet_50 (by decide) (fun c_50 => ?_) (fun c_50 => ?_)
    · replace hf := (if_pos c_50).symm.trans hf
      refine j_keep [true, true, true, true, false] rfl ?_
      exact lab65 _ _ _ _ hf
    · replace hf := (if_neg c_50).symm.trans hf
      refine j_iload_n X dX12_sheet_53 rfl rfl ?_
      refine j_bipush (v := (24 : Int32)) X dX12_sheet_54 (by decide) ?_
      refine j_icmp_le (tgt := 65) X dX12_sheet_56 (by decide) (fun c_56 => ?_) (fun c_56 => ?_)
      · replace hf := (if_pos c_56).symm.trans hf
        refine j_keep [true, true, true, true, false] rfl ?_
        exact lab65 _ _ _ _ hf
      · replace hf := (if_neg c_56).symm.trans hf
        refine j_aload_n X dX12_sheet_59 rfl rfl ?_
        refine j_iconst (v := (1 : Int32)) X dX12_sheet_60 (by decide) ?_
        obtain ⟨q11, g_q11, hf⟩ := ob_t hf
        refine j_callV X [0, 1, 2, 3, 4, 5, 6, 7, 8, 9, 10, 11, 12, 13] 0 (c_X12_error E h g g_q11) (cut_wM_wM_c ..) rfl rfl (ws' := (wM E h g q11.1)) (cut_wM_wM_w ..) (wM_0 ..) rfl k_987 k_989 k_24 k_80 k_990 (⟨rfl, rfl⟩) hdV_X12_error ⟨Nat.le_of_ble_eq_true rfl, Nat.le_of_ble_eq_true rfl⟩ rfl (Nat.le_of_ble_eq_true rfl) rfl dX12_sheet_61 ?_
        obtain rfl := Option.some.inj hf
        exact j_iret X hr hlk rfl dX12_sheet_64 hQ
  have lab35 : ∀ (μ : Mem) (x1 : Int32) (x2 : Int32) (x3 : Int32), f_X12_sheet_L35 μ x1 x2 x3 = some r → J p l e (rmOf 2 42) s m args below meth c E A 5 Q (wM E h g μ) [some (.ref (h 0)), some (.int x1), some (.int x2), some (.int x3), none] 35 [] := by
    intro  μ x1 x2 x3 hf
    rw [f_X12_sheet_L35] at hf
    refine j_iload_n X dX12_sheet_35 rfl rfl ?_
    refine j_if_eq (tgt := 49) X dX12_sheet_36 (by decide) (fun c_36 => ?_) (fun c_36 => ?_)
    · replace hf := (if_pos c_36).symm.trans hf
      refine j_keep [true, true, true, true, false] rfl ?_
      exact lab49 _ _ _ _ hf
    · replace hf := (if_neg c_36).symm.trans hf
      refine j_iload_n X dX12_sheet_39 rfl rfl ?_
      refine j_if_ge (tgt := 49) X dX12_sheet_40 (by decide) (fun c_40 => ?_) (fun c_40 => ?_)
      · replace hf := (if_pos c_40).symm.trans hf
        refine j_keep [true, true, true, true, false] rfl ?_
        exact lab49 _ _ _ _ hf
      · replace hf := (if_neg c_40).symm.trans hf
        refine j_aload_n X dX12_sheet_43 rfl rfl ?_
        refine j_iconst (v := (3 : Int32)) X dX12_sheet_44 (by decide) ?_
        obtain ⟨q12, g_q12, hf⟩ := ob_t hf
        refine j_callV X [0, 1, 2, 3, 4, 5, 6, 7, 8, 9, 10, 11, 12, 13] 0 (c_X12_error E h g g_q12) (cut_wM_wM_c ..) rfl rfl (ws' := (wM E h g q12.1)) (cut_wM_wM_w ..) (wM_0 ..) rfl k_987 k_989 k_24 k_80 k_990 (⟨rfl, rfl⟩) hdV_X12_error ⟨Nat.le_of_ble_eq_true rfl, Nat.le_of_ble_eq_true rfl⟩ rfl (Nat.le_of_ble_eq_true rfl) rfl dX12_sheet_45 ?_
        obtain rfl := Option.some.inj hf
        exact j_iret X hr hlk rfl dX12_sheet_48 hQ
  rw [f_X12_sheet] at hf
  refine j_iload_n X dX12_sheet_0 rfl rfl ?_
  obtain ⟨q1, g_q1, hf⟩ := ob_t hf
  refine j_callS X [] (c_X12_isSheet E g_q1) rfl rfl rfl (ws' := (wM E h g μ)) rfl k_1241 k_1242 k_80 k_1243 (⟨rfl, rfl⟩) hdS_X12_isSheet ⟨Nat.le_of_ble_eq_true rfl, Nat.le_of_ble_eq_true rfl⟩ rfl (Nat.le_of_ble_eq_true rfl) rfl dX12_sheet_1 ?_
  refine j_if_eq (tgt := 29) X dX12_sheet_4 (by decide) (fun c_4 => ?_) (fun c_4 => ?_)
  · replace hf := (if_pos c_4).symm.trans hf
    refine j_aload_n X dX12_sheet_29 rfl rfl ?_
    refine j_iconst (v := (1 : Int32)) X dX12_sheet_30 (by decide) ?_
    obtain ⟨q2, g_q2, hf⟩ := ob_t hf
    refine j_callV X [0, 1, 2, 3, 4, 5, 6, 7, 8, 9, 10, 11, 12, 13] 0 (c_X12_error E h g g_q2) (cut_wM_wM_c ..) rfl rfl (ws' := (wM E h g q2.1)) (cut_wM_wM_w ..) (wM_0 ..) rfl k_987 k_989 k_24 k_80 k_990 (⟨rfl, rfl⟩) hdV_X12_error ⟨Nat.le_of_ble_eq_true rfl, Nat.le_of_ble_eq_true rfl⟩ rfl (Nat.le_of_ble_eq_true rfl) rfl dX12_sheet_31 ?_
    obtain rfl := Option.some.inj hf
    exact j_iret X hr hlk rfl dX12_sheet_34 hQ
  · replace hf := (if_neg c_4).symm.trans hf
    refine j_iload_n X dX12_sheet_7 rfl rfl ?_
    refine j_if_eq (tgt := 35) X dX12_sheet_8 (by decide) (fun c_8 => ?_) (fun c_8 => ?_)
    · replace hf := (if_pos c_8).symm.trans hf
      refine j_keep [true, true, true, true, false] rfl ?_
      exact lab35 _ _ _ _ hf
    · replace hf := (if_neg c_8).symm.trans hf
      refine j_iload_n X dX12_sheet_11 rfl rfl ?_
      refine j_bipush (v := (8 : Int32)) X dX12_sheet_12 (by decide) ?_
      refine j_icmp_eq (tgt := 35) X dX12_sheet_14 (by decide) (fun c_14 => ?_) (fun c_14 => ?_)
      · replace hf := (if_pos c_14).symm.trans hf
        refine j_keep [true, true, true, true, false] rfl ?_
        exact lab35 _ _ _ _ hf
      · replace hf := (if_neg c_14).symm.trans hf
        refine j_iload_n X dX12_sheet_17 rfl rfl ?_
        refine j_bipush (v := (16 : Int32)) X dX12_sheet_18 (by decide) ?_
        refine j_icmp_eq (tgt := 35) X dX12_sheet_20 (by decide) (fun c_20 => ?_) (fun c_20 => ?_)
        · replace hf := (if_pos c_20).symm.trans hf
          refine j_keep [true, true, true, true, false] rfl ?_
          exact lab35 _ _ _ _ hf
        · replace hf := (if_neg c_20).symm.trans hf
          refine j_iload_n X dX12_sheet_23 rfl rfl ?_
          refine j_bipush (v := (32 : Int32)) X dX12_sheet_24 (by decide) ?_
          refine j_icmp_eq (tgt := 35) X dX12_sheet_26 (by decide) (fun c_26 => ?_) (fun c_26 => ?_)
          · replace hf := (if_pos c_26).symm.trans hf
            refine j_keep [true, true, true, true, false] rfl ?_
            exact lab35 _ _ _ _ hf
          · replace hf := (if_neg c_26).symm.trans hf
            refine j_aload_n X dX12_sheet_29 rfl rfl ?_
            refine j_iconst (v := (1 : Int32)) X dX12_sheet_30 (by decide) ?_
            obtain ⟨q13, g_q13, hf⟩ := ob_t hf
            refine j_callV X [0, 1, 2, 3, 4, 5, 6, 7, 8, 9, 10, 11, 12, 13] 0 (c_X12_error E h g g_q13) (cut_wM_wM_c ..) rfl rfl (ws' := (wM E h g q13.1)) (cut_wM_wM_w ..) (wM_0 ..) rfl k_987 k_989 k_24 k_80 k_990 (⟨rfl, rfl⟩) hdV_X12_error ⟨Nat.le_of_ble_eq_true rfl, Nat.le_of_ble_eq_true rfl⟩ rfl (Nat.le_of_ble_eq_true rfl) rfl dX12_sheet_31 ?_
            obtain rfl := Option.some.inj hf
            exact j_iret X hr hlk rfl dX12_sheet_34 hQ
def f_X12_put (μ : Mem) (x1 : Int32) (x2 : Int32) (x3 : Int32) : Option (Mem × Int32) := (f_X12_isSheet x1).bind fun q1 => ((if q1 = 0 then (f_X12_error μ (1 : Int32)).bind fun q11 => (some (q11.1, q11.2)) else (if inb x1 4 = true then (if (μ 10 x1.toNatClampNeg) = 0 then (f_X12_error μ (2 : Int32)).bind fun q10 => (some (q10.1, q10.2)) else (if inb x1 4 = true then (f_X12_in x2 (0 : Int32) ((μ 11 x1.toNatClampNeg) - (1 : Int32))).bind fun q4 => ((if q4 = 0 then (f_X12_error μ (1 : Int32)).bind fun q9 => (some (q9.1, q9.2)) else (if inb x1 4 = true then bd ((32 : Int32) - (μ 10 x1.toNatClampNeg)) fun y6 => ((if inb (((24 : Int32) * x1) + x2) 96 = true then bd (upA μ 12 (upd (μ 12) (((24 : Int32) * x1) + x2).toNatClampNeg ((x3 <<< (y6 &&& 31)) >>> (y6 &&& 31)))) fun μ8 => (some (μ8, (1 : Int32))) else none)) else none))) else none)) else none)))
set_option maxHeartbeats 4000000 in
set_option maxRecDepth 20000 in
theorem c_X12_put (E : Ev) (h : Nat → Nat) (g : Nat → Option Nat) {μ : Mem} {x1 : Int32} {x2 : Int32} {x3 : Int32} {r : (Mem × Int32)} (hf : f_X12_put μ x1 x2 x3 = some r) : Ct E yX12_put cX12_put 5 (some .int) (rmOf 2 42) (wM E h g μ) (wM E h g r.1) [.ref (h 0), .int x1, .int x2, .int x3] (some (.int r.2)) := by
  refine ct_start RX12 1 (by decide) rfl (Nat.le_of_ble_eq_true rfl) ?_
  intro p l e s m args below meth c A Q X hr hlk hQ
  rw [f_X12_put] at hf
  refine j_iload_n X dX12_put_0 rfl rfl ?_
  obtain ⟨q1, g_q1, hf⟩ := ob_t hf
  refine j_callS X [] (c_X12_isSheet E g_q1) rfl rfl rfl (ws' := (wM E h g μ)) rfl k_1241 k_1242 k_80 k_1243 (⟨rfl, rfl⟩) hdS_X12_isSheet ⟨Nat.le_of_ble_eq_true rfl, Nat.le_of_ble_eq_true rfl⟩ rfl (Nat.le_of_ble_eq_true rfl) rfl dX12_put_1 ?_
  refine j_if_ne (tgt := 13) X dX12_put_4 (by decide) (fun c_4 => ?_) (fun c_4 => ?_)
  · replace hf := (if_neg c_4).symm.trans hf
    refine j_aload_n X dX12_put_13 rfl rfl ?_
    refine j_get (C := RX12) (T := TX12) (N := 21) X iX12 0 (wM_0 ..) rfl 17 (by decide) k_933 rfl rfl dX12_put_14 ?_
    refine j_iload_n X dX12_put_17 rfl rfl ?_
    obtain ⟨c2, hf⟩ := oi_in hf
    refine j_iald X 10 (wM_10 ..) c2 dX12_put_18 ?_
    refine j_if_ne (tgt := 28) X dX12_put_19 (by decide) (fun c_19 => ?_) (fun c_19 => ?_)
    · replace hf := (if_neg c_19).symm.trans hf
      refine j_iload_n X dX12_put_28 rfl rfl ?_
      refine j_iconst (v := (0 : Int32)) X dX12_put_29 (by decide) ?_
      refine j_aload_n X dX12_put_30 rfl rfl ?_
      refine j_get (C := RX12) (T := TX12) (N := 21) X iX12 0 (wM_0 ..) rfl 18 (by decide) k_934 rfl rfl dX12_put_31 ?_
      refine j_iload_n X dX12_put_34 rfl rfl ?_
      obtain ⟨c3, hf⟩ := oi_in hf
      refine j_iald X 11 (wM_11 ..) c3 dX12_put_35 ?_
      refine j_iconst (v := (1 : Int32)) X dX12_put_36 (by decide) ?_
      refine j_isub X dX12_put_37 ?_
      obtain ⟨q4, g_q4, hf⟩ := ob_t hf
      refine j_callS X [] (c_X12_in E g_q4) rfl rfl rfl (ws' := (wM E h g μ)) rfl k_984 k_985 k_80 k_986 (⟨rfl, rfl⟩) hdS_X12_in ⟨Nat.le_of_ble_eq_true rfl, Nat.le_of_ble_eq_true rfl⟩ rfl (Nat.le_of_ble_eq_true rfl) rfl dX12_put_38 ?_
      refine j_if_ne (tgt := 50) X dX12_put_41 (by decide) (fun c_41 => ?_) (fun c_41 => ?_)
      · replace hf := (if_neg c_41).symm.trans hf
        refine j_bipush (v := (32 : Int32)) X dX12_put_50 (by decide) ?_
        refine j_aload_n X dX12_put_52 rfl rfl ?_
        refine j_get (C := RX12) (T := TX12) (N := 21) X iX12 0 (wM_0 ..) rfl 17 (by decide) k_933 rfl rfl dX12_put_53 ?_
        refine j_iload_n X dX12_put_56 rfl rfl ?_
        obtain ⟨c5, hf⟩ := oi_in hf
        refine j_iald X 10 (wM_10 ..) c5 dX12_put_57 ?_
        refine j_isub X dX12_put_58 ?_
        obtain ⟨y6, e_y6, hf⟩ := bd_e hf
        refine j_top e_y6 ?_
        refine j_istore4 X dX12_put_59 (by decide) rfl ?_
        refine j_aload_n X dX12_put_61 rfl rfl ?_
        refine j_get (C := RX12) (T := TX12) (N := 21) X iX12 0 (wM_0 ..) rfl 19 (by decide) k_935 rfl rfl dX12_put_62 ?_
        refine j_bipush (v := (24 : Int32)) X dX12_put_65 (by decide) ?_
        refine j_iload_n X dX12_put_67 rfl rfl ?_
        refine j_imul X dX12_put_68 ?_
        refine j_iload_n X dX12_put_69 rfl rfl ?_
        refine j_iadd X dX12_put_70 ?_
        refine j_iload_n X dX12_put_71 rfl rfl ?_
        refine j_iload X dX12_put_72 rfl ?_
        refine j_ishl X dX12_put_74 ?_
        refine j_iload X dX12_put_75 rfl ?_
        refine j_ishr X dX12_put_77 ?_
        obtain ⟨c7, hf⟩ := oi_in hf
        obtain ⟨μ8, e_μ8, hf⟩ := bd_e hf
        refine j_iast X 12 (wM_12 ..) c7 dX12_put_78 (ws' := (wM E h g μ8)) (by rw [e_μ8]; exact wM_s12 ..) ?_
        refine j_iconst (v := (1 : Int32)) X dX12_put_79 (by decide) ?_
        obtain rfl := Option.some.inj hf
        exact j_iret X hr hlk rfl dX12_put_80 hQ
      · replace hf := (if_pos c_41).symm.trans hf
        refine j_aload_n X dX12_put_44 rfl rfl ?_
        refine j_iconst (v := (1 : Int32)) X dX12_put_45 (by decide) ?_
        obtain ⟨q9, g_q9, hf⟩ := ob_t hf
        refine j_callV X [0, 1, 2, 3, 4, 5, 6, 7, 8, 9, 10, 11, 12, 13] 0 (c_X12_error E h g g_q9) (cut_wM_wM_c ..) rfl rfl (ws' := (wM E h g q9.1)) (cut_wM_wM_w ..) (wM_0 ..) rfl k_987 k_989 k_24 k_80 k_990 (⟨rfl, rfl⟩) hdV_X12_error ⟨Nat.le_of_ble_eq_true rfl, Nat.le_of_ble_eq_true rfl⟩ rfl (Nat.le_of_ble_eq_true rfl) rfl dX12_put_46 ?_
        obtain rfl := Option.some.inj hf
        exact j_iret X hr hlk rfl dX12_put_49 hQ
    · replace hf := (if_pos c_19).symm.trans hf
      refine j_aload_n X dX12_put_22 rfl rfl ?_
      refine j_iconst (v := (2 : Int32)) X dX12_put_23 (by decide) ?_
      obtain ⟨q10, g_q10, hf⟩ := ob_t hf
      refine j_callV X [0, 1, 2, 3, 4, 5, 6, 7, 8, 9, 10, 11, 12, 13] 0 (c_X12_error E h g g_q10) (cut_wM_wM_c ..) rfl rfl (ws' := (wM E h g q10.1)) (cut_wM_wM_w ..) (wM_0 ..) rfl k_987 k_989 k_24 k_80 k_990 (⟨rfl, rfl⟩) hdV_X12_error ⟨Nat.le_of_ble_eq_true rfl, Nat.le_of_ble_eq_true rfl⟩ rfl (Nat.le_of_ble_eq_true rfl) rfl dX12_put_24 ?_
      obtain rfl := Option.some.inj hf
      exact j_iret X hr hlk rfl dX12_put_27 hQ
  · replace hf := (if_pos c_4).symm.trans hf
    refine j_aload_n X dX12_put_7 rfl rfl ?_
    refine j_iconst (v := (1 : Int32)) X dX12_put_8 (by decide) ?_
    obtain ⟨q11, g_q11, hf⟩ := ob_t hf
    refine j_callV X [0, 1, 2, 3, 4, 5, 6, 7, 8, 9, 10, 11, 12, 13] 0 (c_X12_error E h g g_q11) (cut_wM_wM_c ..) rfl rfl (ws' := (wM E h g q11.1)) (cut_wM_wM_w ..) (wM_0 ..) rfl k_987 k_989 k_24 k_80 k_990 (⟨rfl, rfl⟩) hdV_X12_error ⟨Nat.le_of_ble_eq_true rfl, Nat.le_of_ble_eq_true rfl⟩ rfl (Nat.le_of_ble_eq_true rfl) rfl dX12_put_9 ?_
    obtain rfl := Option.some.inj hf
    exact j_iret X hr hlk rfl dX12_put_12 hQ
def f_X12_move_L152 : Nat → Mem → Int32 → Int32 → Int32 → Int32 → Option (Mem × Int32)
  | 0, _, _, _, _, _ => none
  | n + 1, μ, x3, x4, x5, x6 => (if x5 ≤ x6 then some (μ, x5) else (if inb x6 24 = true then (if inb ((((24 : Int32) * x3) + x4) + x6) 96 = true then bd (upA μ 12 (upd (μ 12) ((((24 : Int32) * x3) + x4) + x6).toNatClampNeg (μ 13 x6.toNatClampNeg))) fun μ17 => ((f_X12_move_L152 n) μ17 x3 x4 x5 (x6 + (1 : Int32))) else none) else none))
def f_X12_move_L115 : Nat → Mem → Int32 → Int32 → Int32 → Int32 → Int32 → Int32 → Option (Mem × Int32)
  | 0, _, _, _, _, _, _, _ => none
  | n + 1, μ, x1, x2, x3, x4, x5, x6 => (if x5 ≤ x6 then f_X12_move_L152 fuel0 μ x3 x4 x5 (0 : Int32) else (if inb ((((24 : Int32) * x1) + x2) + x6) 96 = true then (if inb x6 24 = true then bd (upA μ 13 (upd (μ 13) x6.toNatClampNeg (μ 12 ((((24 : Int32) * x1) + x2) + x6).toNatClampNeg))) fun μ20 => ((f_X12_move_L115 n) μ20 x1 x2 x3 x4 x5 (x6 + (1 : Int32))) else none) else none))
def f_X12_move (μ : Mem) (x1 : Int32) (x2 : Int32) (x3 : Int32) (x4 : Int32) (x5 : Int32) : Option (Mem × Int32) := (f_X12_isSheet x1).bind fun q1 => ((if q1 = 0 then (f_X12_error μ (1 : Int32)).bind fun q2 => (some (q2.1, q2.2)) else (f_X12_isSheet x3).bind fun q3 => ((if q3 = 0 then (f_X12_error μ (1 : Int32)).bind fun q24 => (some (q24.1, q24.2)) else (if inb x1 4 = true then (if (μ 10 x1.toNatClampNeg) = 0 then (f_X12_error μ (2 : Int32)).bind fun q5 => (some (q5.1, q5.2)) else (if inb x3 4 = true then (if (μ 10 x3.toNatClampNeg) = 0 then (f_X12_error μ (2 : Int32)).bind fun q23 => (some (q23.1, q23.2)) else (if inb x1 4 = true then (if inb x3 4 = true then (if (μ 10 x1.toNatClampNeg) = (μ 10 x3.toNatClampNeg) then (if x5 < 0 then (f_X12_error μ (1 : Int32)).bind fun q9 => (some (q9.1, q9.2)) else (if x2 < 0 then (f_X12_error μ (1 : Int32)).bind fun q10 => (some (q10.1, q10.2)) else (if x4 < 0 then (f_X12_error μ (1 : Int32)).bind fun q11 => (some (q11.1, q11.2)) else (if inb x1 4 = true then (if ((μ 11 x1.toNatClampNeg) - x5) < x2 then (f_X12_error μ (1 : Int32)).bind fun q13 => (some (q13.1, q13.2)) else (if inb x3 4 = true then (if x4 ≤ ((μ 11 x3.toNatClampNeg) - x5) then f_X12_move_L115 fuel0 μ x1 x2 x3 x4 x5 (0 : Int32) else (f_X12_error μ (1 : Int32)).bind fun q21 => (some (q21.1, q21.2))) else none)) else none)))) else (f_X12_error μ (5 : Int32)).bind fun q22 => (some (q22.1, q22.2))) else none) else none)) else none)) else none)))))
set_option maxHeartbeats 4000000 in
set_option maxRecDepth 20000 in
theorem c_X12_move (E : Ev) (h : Nat → Nat) (g : Nat → Option Nat) {μ : Mem} {x1 : Int32} {x2 : Int32} {x3 : Int32} {x4 : Int32} {x5 : Int32} {r : (Mem × Int32)} (hf : f_X12_move μ x1 x2 x3 x4 x5 = some r) : Ct E yX12_move cX12_move 7 (some .int) (rmOf 2 42) (wM E h g μ) (wM E h g r.1) [.ref (h 0), .int x1, .int x2, .int x3, .int x4, .int x5] (some (.int r.2)) := by
  refine ct_start RX12 1 (by decide) rfl (Nat.le_of_ble_eq_true rfl) ?_
  intro p l e s m args below meth c A Q X hr hlk hQ
  have lab152 : ∀ (n : Nat) (μ : Mem) (x3 : Int32) (x4 : Int32) (x5 : Int32) (x6 : Int32), f_X12_move_L152 n μ x3 x4 x5 x6 = some r → J p l e (rmOf 2 42) s m args below meth c E A 7 Q (wM E h g μ) [some (.ref (h 0)), none, none, some (.int x3), some (.int x4), some (.int x5), some (.int x6)] 152 [] := by
    intro n
    induction n with
    | zero => intro μ x3 x4 x5 x6 hf; cases (show none = some r from hf)
    | succ n ih =>
      intro μ x3 x4 x5 x6 hf
      rw [f_X12_move_L152] at hf
      refine j_iload X dX12_move_152 rfl ?_
      refine j_iload X dX12_move_154 rfl ?_
      refine j_icmp_ge (tgt := 187) X dX12_move_156 (by decide) (fun c_156 => ?_) (fun c_156 => ?_)
      · replace hf := (if_pos c_156).symm.trans hf
        refine j_iload X dX12_move_187 rfl ?_
        obtain rfl := Option.some.inj hf
        exact j_iret X hr hlk rfl dX12_move_189 hQ
      · replace hf := (if_neg c_156).symm.trans hf
        refine j_aload_n X dX12_move_159 rfl rfl ?_
        refine j_get (C := RX12) (T := TX12) (N := 21) X iX12 0 (wM_0 ..) rfl 19 (by decide) k_935 rfl rfl dX12_move_160 ?_
        refine j_bipush (v := (24 : Int32)) X dX12_move_163 (by decide) ?_
        refine j_iload_n X dX12_move_165 rfl rfl ?_
        refine j_imul X dX12_move_166 ?_
        refine j_iload X dX12_move_167 rfl ?_
        refine j_iadd X dX12_move_169 ?_
        refine j_iload X dX12_move_170 rfl ?_
        refine j_iadd X dX12_move_172 ?_
        refine j_aload_n X dX12_move_173 rfl rfl ?_
        refine j_get (C := RX12) (T := TX12) (N := 21) X iX12 0 (wM_0 ..) rfl 20 (by decide) k_936 rfl rfl dX12_move_174 ?_
        refine j_iload X dX12_move_177 rfl ?_
        obtain ⟨c15, hf⟩ := oi_in hf
        refine j_iald X 13 (wM_13 ..) c15 dX12_move_179 ?_
        obtain ⟨c16, hf⟩ := oi_in hf
        obtain ⟨μ17, e_μ17, hf⟩ := bd_e hf
        refine j_iast X 12 (wM_12 ..) c16 dX12_move_180 (ws' := (wM E h g μ17)) (by rw [e_μ17]; exact wM_s12 ..) ?_
        refine j_iinc6 (k := (1 : Int32)) X dX12_move_181 (by decide) (by decide) rfl ?_
        refine j_goto (tgt := 152) X dX12_move_184 (by decide) ?_
        refine j_keep [true, false, false, true, true, true, true] rfl ?_
        exact ih _ _ _ _ _ hf
  have lab115 : ∀ (n : Nat) (μ : Mem) (x1 : Int32) (x2 : Int32) (x3 : Int32) (x4 : Int32) (x5 : Int32) (x6 : Int32), f_X12_move_L115 n μ x1 x2 x3 x4 x5 x6 = some r → J p l e (rmOf 2 42) s m args below meth c E A 7 Q (wM E h g μ) [some (.ref (h 0)), some (.int x1), some (.int x2), some (.int x3), some (.int x4), some (.int x5), some (.int x6)] 115 [] := by
    intro n
    induction n with
    | zero => intro μ x1 x2 x3 x4 x5 x6 hf; cases (show none = some r from hf)
    | succ n ih =>
      intro μ x1 x2 x3 x4 x5 x6 hf
      rw [f_X12_move_L115] at hf
      refine j_iload X dX12_move_115 rfl ?_
      refine j_iload X dX12_move_117 rfl ?_
      refine j_icmp_ge (tgt := 149) X dX12_move_119 (by decide) (fun c_119 => ?_) (fun c_119 => ?_)
      · replace hf := (if_pos c_119).symm.trans hf
        refine j_iconst (v := (0 : Int32)) X dX12_move_149 (by decide) ?_
        refine j_istore6 X dX12_move_150 (by decide) rfl ?_
        refine j_keep [true, false, false, true, true, true, true] rfl ?_
        exact lab152 _ _ _ _ _ _ hf
      · replace hf := (if_neg c_119).symm.trans hf
        refine j_aload_n X dX12_move_122 rfl rfl ?_
        refine j_get (C := RX12) (T := TX12) (N := 21) X iX12 0 (wM_0 ..) rfl 20 (by decide) k_936 rfl rfl dX12_move_123 ?_
        refine j_iload X dX12_move_126 rfl ?_
        refine j_aload_n X dX12_move_128 rfl rfl ?_
        refine j_get (C := RX12) (T := TX12) (N := 21) X iX12 0 (wM_0 ..) rfl 19 (by decide) k_935 rfl rfl dX12_move_129 ?_
        refine j_bipush (v := (24 : Int32)) X dX12_move_132 (by decide) ?_
        refine j_iload_n X dX12_move_134 rfl rfl ?_
        refine j_imul X dX12_move_135 ?_
        refine j_iload_n X dX12_move_136 rfl rfl ?_
        refine j_iadd X dX12_move_137 ?_
        refine j_iload X dX12_move_138 rfl ?_
        refine j_iadd X dX12_move_140 ?_
        obtain ⟨c18, hf⟩ := oi_in hf
        refine j_iald X 12 (wM_12 ..) c18 dX12_move_141 ?_
        obtain ⟨c19, hf⟩ := oi_in hf
        obtain ⟨μ20, e_μ20, hf⟩ := bd_e hf
        refine j_iast X 13 (wM_13 ..) c19 dX12_move_142 (ws' := (wM E h g μ20)) (by rw [e_μ20]; exact wM_s13 ..) ?_
        refine j_iinc6 (k := (1 : Int32)) X dX12_move_143 (by decide) (by decide) rfl ?_
        refine j_goto (tgt := 115) X dX12_move_146 (by decide) ?_
        refine j_keep [true, true, true, true, true, true, true] rfl ?_
        exact ih _ _ _ _ _ _ _ hf
  rw [f_X12_move] at hf
  refine j_iload_n X dX12_move_0 rfl rfl ?_
  obtain ⟨q1, g_q1, hf⟩ := ob_t hf
  refine j_callS X [] (c_X12_isSheet E g_q1) rfl rfl rfl (ws' := (wM E h g μ)) rfl k_1241 k_1242 k_80 k_1243 (⟨rfl, rfl⟩) hdS_X12_isSheet ⟨Nat.le_of_ble_eq_true rfl, Nat.le_of_ble_eq_true rfl⟩ rfl (Nat.le_of_ble_eq_true rfl) rfl dX12_move_1 ?_
  refine j_if_eq (tgt := 14) X dX12_move_4 (by decide) (fun c_4 => ?_) (fun c_4 => ?_)
  · replace hf := (if_pos c_4).symm.trans hf
    refine j_aload_n X dX12_move_14 rfl rfl ?_
    refine j_iconst (v := (1 : Int32)) X dX12_move_15 (by decide) ?_
    obtain ⟨q2, g_q2, hf⟩ := ob_t hf
    refine j_callV X [0, 1, 2, 3, 4, 5, 6, 7, 8, 9, 10, 11, 12, 13] 0 (c_X12_error E h g g_q2) (cut_wM_wM_c ..) rfl rfl (ws' := (wM E h g q2.1)) (cut_wM_wM_w ..) (wM_0 ..) rfl k_987 k_989 k_24 k_80 k_990 (⟨rfl, rfl⟩) hdV_X12_error ⟨Nat.le_of_ble_eq_true rfl, Nat.le_of_ble_eq_true rfl⟩ rfl (Nat.le_of_ble_eq_true rfl) rfl dX12_move_16 ?_
    obtain rfl := Option.some.inj hf
    exact j_iret X hr hlk rfl dX12_move_19 hQ
  · replace hf := (if_neg c_4).symm.trans hf
    refine j_iload_n X dX12_move_7 rfl rfl ?_
    obtain ⟨q3, g_q3, hf⟩ := ob_t hf
    refine j_callS X [] (c_X12_isSheet E g_q3) rfl rfl rfl (ws' := (wM E h g μ)) rfl k_1241 k_1242 k_80 k_1243 (⟨rfl, rfl⟩) hdS_X12_isSheet ⟨Nat.le_of_ble_eq_true rfl, Nat.le_of_ble_eq_true rfl⟩ rfl (Nat.le_of_ble_eq_true rfl) rfl dX12_move_8 ?_
    refine j_if_ne (tgt := 20) X dX12_move_11 (by decide) (fun c_11 => ?_) (fun c_11 => ?_)
    · replace hf := (if_neg c_11).symm.trans hf
      refine j_aload_n X dX12_move_20 rfl rfl ?_
      refine j_get (C := RX12) (T := TX12) (N := 21) X iX12 0 (wM_0 ..) rfl 17 (by decide) k_933 rfl rfl dX12_move_21 ?_
      refine j_iload_n X dX12_move_24 rfl rfl ?_
      obtain ⟨c4, hf⟩ := oi_in hf
      refine j_iald X 10 (wM_10 ..) c4 dX12_move_25 ?_
      refine j_if_eq (tgt := 38) X dX12_move_26 (by decide) (fun c_26 => ?_) (fun c_26 => ?_)
      · replace hf := (if_pos c_26).symm.trans hf
        refine j_aload_n X dX12_move_38 rfl rfl ?_
        refine j_iconst (v := (2 : Int32)) X dX12_move_39 (by decide) ?_
        obtain ⟨q5, g_q5, hf⟩ := ob_t hf
        refine j_callV X [0, 1, 2, 3, 4, 5, 6, 7, 8, 9, 10, 11, 12, 13] 0 (c_X12_error E h g g_q5) (cut_wM_wM_c ..) rfl rfl (ws' := (wM E h g q5.1)) (cut_wM_wM_w ..) (wM_0 ..) rfl k_987 k_989 k_24 k_80 k_990 (⟨rfl, rfl⟩) hdV_X12_error ⟨Nat.le_of_ble_eq_true rfl, Nat.le_of_ble_eq_true rfl⟩ rfl (Nat.le_of_ble_eq_true rfl) rfl dX12_move_40 ?_
        obtain rfl := Option.some.inj hf
        exact j_iret X hr hlk rfl dX12_move_43 hQ
      · replace hf := (if_neg c_26).symm.trans hf
        refine j_aload_n X dX12_move_29 rfl rfl ?_
        refine j_get (C := RX12) (T := TX12) (N := 21) X iX12 0 (wM_0 ..) rfl 17 (by decide) k_933 rfl rfl dX12_move_30 ?_
        refine j_iload_n X dX12_move_33 rfl rfl ?_
        obtain ⟨c6, hf⟩ := oi_in hf
        refine j_iald X 10 (wM_10 ..) c6 dX12_move_34 ?_
        refine j_if_ne (tgt := 44) X dX12_move_35 (by decide) (fun c_35 => ?_) (fun c_35 => ?_)
        · replace hf := (if_neg c_35).symm.trans hf
          refine j_aload_n X dX12_move_44 rfl rfl ?_
          refine j_get (C := RX12) (T := TX12) (N := 21) X iX12 0 (wM_0 ..) rfl 17 (by decide) k_933 rfl rfl dX12_move_45 ?_
          refine j_iload_n X dX12_move_48 rfl rfl ?_
          obtain ⟨c7, hf⟩ := oi_in hf
          refine j_iald X 10 (wM_10 ..) c7 dX12_move_49 ?_
          refine j_aload_n X dX12_move_50 rfl rfl ?_
          refine j_get (C := RX12) (T := TX12) (N := 21) X iX12 0 (wM_0 ..) rfl 17 (by decide) k_933 rfl rfl dX12_move_51 ?_
          refine j_iload_n X dX12_move_54 rfl rfl ?_
          obtain ⟨c8, hf⟩ := oi_in hf
          refine j_iald X 10 (wM_10 ..) c8 dX12_move_55 ?_
          refine j_icmp_eq (tgt := 65) X dX12_move_56 (by decide) (fun c_56 => ?_) (fun c_56 => ?_)
          · replace hf := (if_pos c_56).symm.trans hf
            refine j_iload X dX12_move_65 rfl ?_
            refine j_if_lt (tgt := 106) X dX12_move_67 (by decide) (fun c_67 => ?_) (fun c_67 => ?_)
            · replace hf := (if_pos c_67).symm.trans hf
              refine j_aload_n X dX12_move_106 rfl rfl ?_
              refine j_iconst (v := (1 : Int32)) X dX12_move_107 (by decide) ?_
              obtain ⟨q9, g_q9, hf⟩ := ob_t hf
              refine j_callV X [0, 1, 2, 3, 4, 5, 6, 7, 8, 9, 10, 11, 12, 13] 0 (c_X12_error E h g g_q9) (cut_wM_wM_c ..) rfl rfl (ws' := (wM E h g q9.1)) (cut_wM_wM_w ..) (wM_0 ..) rfl k_987 k_989 k_24 k_80 k_990 (⟨rfl, rfl⟩) hdV_X12_error ⟨Nat.le_of_ble_eq_true rfl, Nat.le_of_ble_eq_true rfl⟩ rfl (Nat.le_of_ble_eq_true rfl) rfl dX12_move_108 ?_
              obtain rfl := Option.some.inj hf
              exact j_iret X hr hlk rfl dX12_move_111 hQ
            · replace hf := (if_neg c_67).symm.trans hf
              refine j_iload_n X dX12_move_70 rfl rfl ?_
              refine j_if_lt (tgt := 106) X dX12_move_71 (by decide) (fun c_71 => ?_) (fun c_71 => ?_)
              · replace hf := (if_pos c_71).symm.trans hf
                refine j_aload_n X dX12_move_106 rfl rfl ?_
                refine j_iconst (v := (1 : Int32)) X dX12_move_107 (by decide) ?_
                obtain ⟨q10, g_q10, hf⟩ := ob_t hf
                refine j_callV X [0, 1, 2, 3, 4, 5, 6, 7, 8, 9, 10, 11, 12, 13] 0 (c_X12_error E h g g_q10) (cut_wM_wM_c ..) rfl rfl (ws' := (wM E h g q10.1)) (cut_wM_wM_w ..) (wM_0 ..) rfl k_987 k_989 k_24 k_80 k_990 (⟨rfl, rfl⟩) hdV_X12_error ⟨Nat.le_of_ble_eq_true rfl, Nat.le_of_ble_eq_true rfl⟩ rfl (Nat.le_of_ble_eq_true rfl) rfl dX12_move_108 ?_
                obtain rfl := Option.some.inj hf
                exact j_iret X hr hlk rfl dX12_move_111 hQ
              · replace hf := (if_neg c_71).symm.trans hf
                refine j_iload X dX12_move_74 rfl ?_
                refine j_if_lt (tgt := 106) X dX12_move_76 (by decide) (fun c_76 => ?_) (fun c_76 => ?_)
                · replace hf := (if_pos c_76).symm.trans hf
                  refine j_aload_n X dX12_move_106 rfl rfl ?_
                  refine j_iconst (v := (1 : Int32)) X dX12_move_107 (by decide) ?_
                  obtain ⟨q11, g_q11, hf⟩ := ob_t hf
                  refine j_callV X [0, 1, 2, 3, 4, 5, 6, 7, 8, 9, 10, 11, 12, 13] 0 (c_X12_error E h g g_q11) (cut_wM_wM_c ..) rfl rfl (ws' := (wM E h g q11.1)) (cut_wM_wM_w ..) (wM_0 ..) rfl k_987 k_989 k_24 k_80 k_990 (⟨rfl, rfl⟩) hdV_X12_error ⟨Nat.le_of_ble_eq_true rfl, Nat.le_of_ble_eq_true rfl⟩ rfl (Nat.le_of_ble_eq_true rfl) rfl dX12_move_108 ?_
                  obtain rfl := Option.some.inj hf
                  exact j_iret X hr hlk rfl dX12_move_111 hQ
                · replace hf := (if_neg c_76).symm.trans hf
                  refine j_iload_n X dX12_move_79 rfl rfl ?_
                  refine j_aload_n X dX12_move_80 rfl rfl ?_
                  refine j_get (C := RX12) (T := TX12) (N := 21) X iX12 0 (wM_0 ..) rfl 18 (by decide) k_934 rfl rfl dX12_move_81 ?_
                  refine j_iload_n X dX12_move_84 rfl rfl ?_
                  obtain ⟨c12, hf⟩ := oi_in hf
                  refine j_iald X 11 (wM_11 ..) c12 dX12_move_85 ?_
                  refine j_iload X dX12_move_86 rfl ?_
                  refine j_isub X dX12_move_88 ?_
                  refine j_icmp_gt (tgt := 106) X dX12_move_89 (by decide) (fun c_89 => ?_) (fun c_89 => ?_)
                  · replace hf := (if_pos c_89).symm.trans hf
                    refine j_aload_n X dX12_move_106 rfl rfl ?_
                    refine j_iconst (v := (1 : Int32)) X dX12_move_107 (by decide) ?_
                    obtain ⟨q13, g_q13, hf⟩ := ob_t hf
                    refine j_callV X [0, 1, 2, 3, 4, 5, 6, 7, 8, 9, 10, 11, 12, 13] 0 (c_X12_error E h g g_q13) (cut_wM_wM_c ..) rfl rfl (ws' := (wM E h g q13.1)) (cut_wM_wM_w ..) (wM_0 ..) rfl k_987 k_989 k_24 k_80 k_990 (⟨rfl, rfl⟩) hdV_X12_error ⟨Nat.le_of_ble_eq_true rfl, Nat.le_of_ble_eq_true rfl⟩ rfl (Nat.le_of_ble_eq_true rfl) rfl dX12_move_108 ?_
                    obtain rfl := Option.some.inj hf
                    exact j_iret X hr hlk rfl dX12_move_111 hQ
                  · replace hf := (if_neg c_89).symm.trans hf
                    refine j_iload X dX12_move_92 rfl ?_
                    refine j_aload_n X dX12_move_94 rfl rfl ?_
                    refine j_get (C := RX12) (T := TX12) (N := 21) X iX12 0 (wM_0 ..) rfl 18 (by decide) k_934 rfl rfl dX12_move_95 ?_
                    refine j_iload_n X dX12_move_98 rfl rfl ?_
                    obtain ⟨c14, hf⟩ := oi_in hf
                    refine j_iald X 11 (wM_11 ..) c14 dX12_move_99 ?_
                    refine j_iload X dX12_move_100 rfl ?_
                    refine j_isub X dX12_move_102 ?_
                    refine j_icmp_le (tgt := 112) X dX12_move_103 (by decide) (fun c_103 => ?_) (fun c_103 => ?_)
                    · replace hf := (if_pos c_103).symm.trans hf
                      refine j_iconst (v := (0 : Int32)) X dX12_move_112 (by decide) ?_
                      refine j_istore6 X dX12_move_113 (by decide) rfl ?_
                      refine j_keep [true, true, true, true, true, true, true] rfl ?_
                      exact lab115 _ _ _ _ _ _ _ _ hf
                    · replace hf := (if_neg c_103).symm.trans hf
                      refine j_aload_n X dX12_move_106 rfl rfl ?_
                      refine j_iconst (v := (1 : Int32)) X dX12_move_107 (by decide) ?_
                      obtain ⟨q21, g_q21, hf⟩ := ob_t hf
                      refine j_callV X [0, 1, 2, 3, 4, 5, 6, 7, 8, 9, 10, 11, 12, 13] 0 (c_X12_error E h g g_q21) (cut_wM_wM_c ..) rfl rfl (ws' := (wM E h g q21.1)) (cut_wM_wM_w ..) (wM_0 ..) rfl k_987 k_989 k_24 k_80 k_990 (⟨rfl, rfl⟩) hdV_X12_error ⟨Nat.le_of_ble_eq_true rfl, Nat.le_of_ble_eq_true rfl⟩ rfl (Nat.le_of_ble_eq_true rfl) rfl dX12_move_108 ?_
                      obtain rfl := Option.some.inj hf
                      exact j_iret X hr hlk rfl dX12_move_111 hQ
          · replace hf := (if_neg c_56).symm.trans hf
            refine j_aload_n X dX12_move_59 rfl rfl ?_
            refine j_iconst (v := (5 : Int32)) X dX12_move_60 (by decide) ?_
            obtain ⟨q22, g_q22, hf⟩ := ob_t hf
            refine j_callV X [0, 1, 2, 3, 4, 5, 6, 7, 8, 9, 10, 11, 12, 13] 0 (c_X12_error E h g g_q22) (cut_wM_wM_c ..) rfl rfl (ws' := (wM E h g q22.1)) (cut_wM_wM_w ..) (wM_0 ..) rfl k_987 k_989 k_24 k_80 k_990 (⟨rfl, rfl⟩) hdV_X12_error ⟨Nat.le_of_ble_eq_true rfl, Nat.le_of_ble_eq_true rfl⟩ rfl (Nat.le_of_ble_eq_true rfl) rfl dX12_move_61 ?_
            obtain rfl := Option.some.inj hf
            exact j_iret X hr hlk rfl dX12_move_64 hQ
        · replace hf := (if_pos c_35).symm.trans hf
          refine j_aload_n X dX12_move_38 rfl rfl ?_
          refine j_iconst (v := (2 : Int32)) X dX12_move_39 (by decide) ?_
          obtain ⟨q23, g_q23, hf⟩ := ob_t hf
          refine j_callV X [0, 1, 2, 3, 4, 5, 6, 7, 8, 9, 10, 11, 12, 13] 0 (c_X12_error E h g g_q23) (cut_wM_wM_c ..) rfl rfl (ws' := (wM E h g q23.1)) (cut_wM_wM_w ..) (wM_0 ..) rfl k_987 k_989 k_24 k_80 k_990 (⟨rfl, rfl⟩) hdV_X12_error ⟨Nat.le_of_ble_eq_true rfl, Nat.le_of_ble_eq_true rfl⟩ rfl (Nat.le_of_ble_eq_true rfl) rfl dX12_move_40 ?_
          obtain rfl := Option.some.inj hf
          exact j_iret X hr hlk rfl dX12_move_43 hQ
    · replace hf := (if_pos c_11).symm.trans hf
      refine j_aload_n X dX12_move_14 rfl rfl ?_
      refine j_iconst (v := (1 : Int32)) X dX12_move_15 (by decide) ?_
      obtain ⟨q24, g_q24, hf⟩ := ob_t hf
      refine j_callV X [0, 1, 2, 3, 4, 5, 6, 7, 8, 9, 10, 11, 12, 13] 0 (c_X12_error E h g g_q24) (cut_wM_wM_c ..) rfl rfl (ws' := (wM E h g q24.1)) (cut_wM_wM_w ..) (wM_0 ..) rfl k_987 k_989 k_24 k_80 k_990 (⟨rfl, rfl⟩) hdV_X12_error ⟨Nat.le_of_ble_eq_true rfl, Nat.le_of_ble_eq_true rfl⟩ rfl (Nat.le_of_ble_eq_true rfl) rfl dX12_move_16 ?_
      obtain rfl := Option.some.inj hf
      exact j_iret X hr hlk rfl dX12_move_19 hQ
def f_X12_lacks (μ : Mem) (x1 : Int32) : Option (Mem × Int32) := (f_X12_isSheet x1).bind fun q1 => ((if q1 = 0 then some (μ, (1 : Int32)) else (if inb x1 4 = true then (if (μ 10 x1.toNatClampNeg) = 0 then some (μ, (2 : Int32)) else some (μ, (0 : Int32))) else none)))
set_option maxHeartbeats 4000000 in
set_option maxRecDepth 20000 in
theorem c_X12_lacks (E : Ev) (h : Nat → Nat) (g : Nat → Option Nat) {μ : Mem} {x1 : Int32} {r : (Mem × Int32)} (hf : f_X12_lacks μ x1 = some r) : Ct E yX12_lacks cX12_lacks 2 (some .int) (rmOf 2 42) (wM E h g μ) (wM E h g r.1) [.ref (h 0), .int x1] (some (.int r.2)) := by
  refine ct_start RX12 0 (by decide) rfl (Nat.le_of_ble_eq_true rfl) ?_
  intro p l e s m args below meth c A Q X hr hlk hQ
  rw [f_X12_lacks] at hf
  refine j_iload_n X dX12_lacks_0 rfl rfl ?_
  obtain ⟨q1, g_q1, hf⟩ := ob_t hf
  refine j_callS X [] (c_X12_isSheet E g_q1) rfl rfl rfl (ws' := (wM E h g μ)) rfl k_1241 k_1242 k_80 k_1243 (⟨rfl, rfl⟩) hdS_X12_isSheet ⟨Nat.le_of_ble_eq_true rfl, Nat.le_of_ble_eq_true rfl⟩ rfl (Nat.le_of_ble_eq_true rfl) rfl dX12_lacks_1 ?_
  refine j_if_ne (tgt := 11) X dX12_lacks_4 (by decide) (fun c_4 => ?_) (fun c_4 => ?_)
  · replace hf := (if_neg c_4).symm.trans hf
    refine j_aload_n X dX12_lacks_11 rfl rfl ?_
    refine j_get (C := RX12) (T := TX12) (N := 21) X iX12 0 (wM_0 ..) rfl 17 (by decide) k_933 rfl rfl dX12_lacks_12 ?_
    refine j_iload_n X dX12_lacks_15 rfl rfl ?_
    obtain ⟨c2, hf⟩ := oi_in hf
    refine j_iald X 10 (wM_10 ..) c2 dX12_lacks_16 ?_
    refine j_if_ne (tgt := 24) X dX12_lacks_17 (by decide) (fun c_17 => ?_) (fun c_17 => ?_)
    · replace hf := (if_neg c_17).symm.trans hf
      refine j_iconst (v := (0 : Int32)) X dX12_lacks_24 (by decide) ?_
      obtain rfl := Option.some.inj hf
      exact j_iret X hr hlk rfl dX12_lacks_25 hQ
    · replace hf := (if_pos c_17).symm.trans hf
      refine j_iconst (v := (2 : Int32)) X dX12_lacks_20 (by decide) ?_
      refine j_goto (tgt := 25) X dX12_lacks_21 (by decide) ?_
      obtain rfl := Option.some.inj hf
      exact j_iret X hr hlk rfl dX12_lacks_25 hQ
  · replace hf := (if_pos c_4).symm.trans hf
    refine j_iconst (v := (1 : Int32)) X dX12_lacks_7 (by decide) ?_
    refine j_goto (tgt := 25) X dX12_lacks_8 (by decide) ?_
    obtain rfl := Option.some.inj hf
    exact j_iret X hr hlk rfl dX12_lacks_25 hQ
def f_X12_flies_L18 : Nat → Mem → Int32 → Int32 → Option (Mem × Int32)
  | 0, _, _, _ => none
  | n + 1, μ, x1, x3 => (if inb x1 4 = true then (if (μ 11 x1.toNatClampNeg) ≤ x3 then some (μ, x3) else (if inb (((24 : Int32) * x1) + x3) 96 = true then (f_X12_isOne (μ 12 (((24 : Int32) * x1) + x3).toNatClampNeg)).bind fun q4 => ((if q4 = 0 then some (μ, x3) else (if inb (((24 : Int32) * x1) + x3) 96 = true then (f_X12_flyAt μ (μ 12 (((24 : Int32) * x1) + x3).toNatClampNeg)).bind fun q6 => ((f_X12_flies_L18 n) q6.1 x1 (x3 + (1 : Int32))) else none))) else none)) else none)
def f_X12_flies (μ : Mem) (x1 : Int32) : Option (Mem × Int32) := (f_X12_lacks μ x1).bind fun q1 => ((if q1.2 ≤ 0 then f_X12_flies_L18 fuel0 q1.1 x1 (0 : Int32) else (f_X12_error q1.1 q1.2).bind fun q7 => (some (q7.1, q7.2))))
set_option maxHeartbeats 4000000 in
set_option maxRecDepth 20000 in
theorem c_X12_flies (E : Ev) (h : Nat → Nat) (g : Nat → Option Nat) {μ : Mem} {x1 : Int32} {r : (Mem × Int32)} (hf : f_X12_flies μ x1 = some r) : Ct E yX12_flies cX12_flies 5 (some .int) (rmOf 6 138) (wM E h g μ) (wM E h g r.1) [.ref (h 0), .int x1] (some (.int r.2)) := by
  refine ct_start RX12 3 (by decide) rfl (Nat.le_of_ble_eq_true rfl) ?_
  intro p l e s m args below meth c A Q X hr hlk hQ
  have lab18 : ∀ (n : Nat) (μ : Mem) (x1 : Int32) (x3 : Int32), f_X12_flies_L18 n μ x1 x3 = some r → J p l e (rmOf 6 138) s m args below meth c E A 5 Q (wM E h g μ) [some (.ref (h 0)), some (.int x1), none, some (.int x3), none] 18 [] := by
    intro n
    induction n with
    | zero => intro μ x1 x3 hf; cases (show none = some r from hf)
    | succ n ih =>
      intro μ x1 x3 hf
      rw [f_X12_flies_L18] at hf
      refine j_iload_n X dX12_flies_18 rfl rfl ?_
      refine j_aload_n X dX12_flies_19 rfl rfl ?_
      refine j_get (C := RX12) (T := TX12) (N := 21) X iX12 0 (wM_0 ..) rfl 18 (by decide) k_934 rfl rfl dX12_flies_20 ?_
      refine j_iload_n X dX12_flies_23 rfl rfl ?_
      obtain ⟨c2, hf⟩ := oi_in hf
      refine j_iald X 11 (wM_11 ..) c2 dX12_flies_24 ?_
      refine j_icmp_ge (tgt := 68) X dX12_flies_25 (by decide) (fun c_25 => ?_) (fun c_25 => ?_)
      · replace hf := (if_pos c_25).symm.trans hf
        refine j_iload_n X dX12_flies_68 rfl rfl ?_
        obtain rfl := Option.some.inj hf
        exact j_iret X hr hlk rfl dX12_flies_69 hQ
      · replace hf := (if_neg c_25).symm.trans hf
        refine j_aload_n X dX12_flies_28 rfl rfl ?_
        refine j_get (C := RX12) (T := TX12) (N := 21) X iX12 0 (wM_0 ..) rfl 19 (by decide) k_935 rfl rfl dX12_flies_29 ?_
        refine j_bipush (v := (24 : Int32)) X dX12_flies_32 (by decide) ?_
        refine j_iload_n X dX12_flies_34 rfl rfl ?_
        refine j_imul X dX12_flies_35 ?_
        refine j_iload_n X dX12_flies_36 rfl rfl ?_
        refine j_iadd X dX12_flies_37 ?_
        obtain ⟨c3, hf⟩ := oi_in hf
        refine j_iald X 12 (wM_12 ..) c3 dX12_flies_38 ?_
        obtain ⟨q4, g_q4, hf⟩ := ob_t hf
        refine j_callS X [] (c_X12_isOne E g_q4) rfl rfl rfl (ws' := (wM E h g μ)) rfl k_1049 k_1050 k_80 k_1051 (⟨rfl, rfl⟩) hdS_X12_isOne ⟨Nat.le_of_ble_eq_true rfl, Nat.le_of_ble_eq_true rfl⟩ rfl (Nat.le_of_ble_eq_true rfl) rfl dX12_flies_39 ?_
        refine j_if_eq (tgt := 68) X dX12_flies_42 (by decide) (fun c_42 => ?_) (fun c_42 => ?_)
        · replace hf := (if_pos c_42).symm.trans hf
          refine j_iload_n X dX12_flies_68 rfl rfl ?_
          obtain rfl := Option.some.inj hf
          exact j_iret X hr hlk rfl dX12_flies_69 hQ
        · replace hf := (if_neg c_42).symm.trans hf
          refine j_aload_n X dX12_flies_45 rfl rfl ?_
          refine j_aload_n X dX12_flies_46 rfl rfl ?_
          refine j_get (C := RX12) (T := TX12) (N := 21) X iX12 0 (wM_0 ..) rfl 19 (by decide) k_935 rfl rfl dX12_flies_47 ?_
          refine j_bipush (v := (24 : Int32)) X dX12_flies_50 (by decide) ?_
          refine j_iload_n X dX12_flies_52 rfl rfl ?_
          refine j_imul X dX12_flies_53 ?_
          refine j_iload_n X dX12_flies_54 rfl rfl ?_
          refine j_iadd X dX12_flies_55 ?_
          obtain ⟨c5, hf⟩ := oi_in hf
          refine j_iald X 12 (wM_12 ..) c5 dX12_flies_56 ?_
          obtain ⟨q6, g_q6, hf⟩ := ob_t hf
          refine j_callV X [0, 1, 2, 3, 4, 5, 6, 7, 8, 9, 10, 11, 12, 13] 0 (c_X12_flyAt E h g g_q6) (cut_wM_wM_c ..) rfl rfl (ws' := (wM E h g q6.1)) (cut_wM_wM_w ..) (wM_0 ..) rfl k_1157 k_1159 k_51 k_80 k_1160 (⟨rfl, rfl⟩) hdV_X12_flyAt ⟨Nat.le_of_ble_eq_true rfl, Nat.le_of_ble_eq_true rfl⟩ rfl (Nat.le_of_ble_eq_true rfl) rfl dX12_flies_57 ?_
          refine j_istore4 X dX12_flies_60 (by decide) rfl ?_
          refine j_iinc3 (k := (1 : Int32)) X dX12_flies_62 (by decide) (by decide) rfl ?_
          refine j_goto (tgt := 18) X dX12_flies_65 (by decide) ?_
          refine j_keep [true, true, false, true, false] rfl ?_
          exact ih _ _ _ hf
  rw [f_X12_flies] at hf
  refine j_aload_n X dX12_flies_0 rfl rfl ?_
  refine j_iload_n X dX12_flies_1 rfl rfl ?_
  obtain ⟨q1, g_q1, hf⟩ := ob_t hf
  refine j_callV X [0, 1, 2, 3, 4, 5, 6, 7, 8, 9, 10, 11, 12, 13] 0 (c_X12_lacks E h g g_q1) (cut_wM_wM_c ..) rfl rfl (ws' := (wM E h g q1.1)) (cut_wM_wM_w ..) (wM_0 ..) rfl k_1302 k_1304 k_66 k_80 k_1305 (⟨rfl, rfl⟩) hdV_X12_lacks ⟨Nat.le_of_ble_eq_true rfl, Nat.le_of_ble_eq_true rfl⟩ rfl (Nat.le_of_ble_eq_true rfl) rfl dX12_flies_2 ?_
  refine j_istore_n2 X dX12_flies_5 rfl (by decide) rfl ?_
  refine j_iload_n X dX12_flies_6 rfl rfl ?_
  refine j_if_le (tgt := 16) X dX12_flies_7 (by decide) (fun c_7 => ?_) (fun c_7 => ?_)
  · replace hf := (if_pos c_7).symm.trans hf
    refine j_iconst (v := (0 : Int32)) X dX12_flies_16 (by decide) ?_
    refine j_istore_n3 X dX12_flies_17 rfl (by decide) rfl ?_
    refine j_keep [true, true, false, true, false] rfl ?_
    exact lab18 _ _ _ _ hf
  · replace hf := (if_neg c_7).symm.trans hf
    refine j_aload_n X dX12_flies_10 rfl rfl ?_
    refine j_iload_n X dX12_flies_11 rfl rfl ?_
    obtain ⟨q7, g_q7, hf⟩ := ob_t hf
    refine j_callV X [0, 1, 2, 3, 4, 5, 6, 7, 8, 9, 10, 11, 12, 13] 0 (c_X12_error E h g g_q7) (cut_wM_wM_c ..) rfl rfl (ws' := (wM E h g q7.1)) (cut_wM_wM_w ..) (wM_0 ..) rfl k_987 k_989 k_24 k_80 k_990 (⟨rfl, rfl⟩) hdV_X12_error ⟨Nat.le_of_ble_eq_true rfl, Nat.le_of_ble_eq_true rfl⟩ rfl (Nat.le_of_ble_eq_true rfl) rfl dX12_flies_12 ?_
    obtain rfl := Option.some.inj hf
    exact j_iret X hr hlk rfl dX12_flies_15 hQ
def f_X12_judge_L23 : Nat → Mem → Int32 → Int32 → Option (Mem × Int32)
  | 0, _, _, _ => none
  | n + 1, μ, x1, x3 => (if inb x1 4 = true then (if (μ 11 x1.toNatClampNeg) ≤ x3 then (f_X12_layBack μ (0 : Int32)).bind fun q4 => (some (q4, x3)) else (if inb (((24 : Int32) * x1) + x3) 96 = true then (f_X12_howMany μ).bind fun q6 => ((if (μ 12 (((24 : Int32) * x1) + x3).toNatClampNeg) = q6.2 then (f_X12_minute q6.1).bind fun q8 => ((f_X12_judge_L23 n) q8.1 x1 (x3 + (1 : Int32))) else (f_X12_layBack q6.1 (0 : Int32)).bind fun q7 => (some (q7, x3)))) else none)) else none)
def f_X12_judge (μ : Mem) (x1 : Int32) : Option (Mem × Int32) := (f_X12_lacks μ x1).bind fun q1 => ((if q1.2 ≤ 0 then (f_X12_layDown q1.1 (0 : Int32)).bind fun q2 => (f_X12_judge_L23 fuel0 q2 x1 (0 : Int32)) else (f_X12_error q1.1 q1.2).bind fun q9 => (some (q9.1, q9.2))))
set_option maxHeartbeats 4000000 in
set_option maxRecDepth 20000 in
theorem c_X12_judge (E : Ev) (h : Nat → Nat) (g : Nat → Option Nat) {μ : Mem} {x1 : Int32} {r : (Mem × Int32)} (hf : f_X12_judge μ x1 = some r) : Ct E yX12_judge cX12_judge 5 (some .int) (rmOf 6 137) (wM E h g μ) (wM E h g r.1) [.ref (h 0), .int x1] (some (.int r.2)) := by
  refine ct_start RX12 3 (by decide) rfl (Nat.le_of_ble_eq_true rfl) ?_
  intro p l e s m args below meth c A Q X hr hlk hQ
  have lab23 : ∀ (n : Nat) (μ : Mem) (x1 : Int32) (x3 : Int32), f_X12_judge_L23 n μ x1 x3 = some r → J p l e (rmOf 6 137) s m args below meth c E A 5 Q (wM E h g μ) [some (.ref (h 0)), some (.int x1), none, some (.int x3), none] 23 [] := by
    intro n
    induction n with
    | zero => intro μ x1 x3 hf; cases (show none = some r from hf)
    | succ n ih =>
      intro μ x1 x3 hf
      rw [f_X12_judge_L23] at hf
      refine j_iload_n X dX12_judge_23 rfl rfl ?_
      refine j_aload_n X dX12_judge_24 rfl rfl ?_
      refine j_get (C := RX12) (T := TX12) (N := 21) X iX12 0 (wM_0 ..) rfl 18 (by decide) k_934 rfl rfl dX12_judge_25 ?_
      refine j_iload_n X dX12_judge_28 rfl rfl ?_
      obtain ⟨c3, hf⟩ := oi_in hf
      refine j_iald X 11 (wM_11 ..) c3 dX12_judge_29 ?_
      refine j_icmp_ge (tgt := 63) X dX12_judge_30 (by decide) (fun c_30 => ?_) (fun c_30 => ?_)
      · replace hf := (if_pos c_30).symm.trans hf
        refine j_aload_n X dX12_judge_63 rfl rfl ?_
        refine j_iconst (v := (0 : Int32)) X dX12_judge_64 (by decide) ?_
        obtain ⟨q4, g_q4, hf⟩ := ob_t hf
        refine j_callV X [0, 1, 2, 3, 4, 5, 6, 7, 8, 9, 10, 11, 12, 13] 0 (c_X12_layBack E h g g_q4) (cut_wM_wM_c ..) rfl rfl (ws' := (wM E h g q4)) (cut_wM_wM_w ..) (wM_0 ..) rfl k_1190 k_1192 k_55 k_80 k_1193 (⟨rfl, rfl⟩) hdV_X12_layBack ⟨Nat.le_of_ble_eq_true rfl, Nat.le_of_ble_eq_true rfl⟩ rfl (Nat.le_of_ble_eq_true rfl) rfl dX12_judge_65 ?_
        refine j_iload_n X dX12_judge_68 rfl rfl ?_
        obtain rfl := Option.some.inj hf
        exact j_iret X hr hlk rfl dX12_judge_69 hQ
      · replace hf := (if_neg c_30).symm.trans hf
        refine j_aload_n X dX12_judge_33 rfl rfl ?_
        refine j_get (C := RX12) (T := TX12) (N := 21) X iX12 0 (wM_0 ..) rfl 19 (by decide) k_935 rfl rfl dX12_judge_34 ?_
        refine j_bipush (v := (24 : Int32)) X dX12_judge_37 (by decide) ?_
        refine j_iload_n X dX12_judge_39 rfl rfl ?_
        refine j_imul X dX12_judge_40 ?_
        refine j_iload_n X dX12_judge_41 rfl rfl ?_
        refine j_iadd X dX12_judge_42 ?_
        obtain ⟨c5, hf⟩ := oi_in hf
        refine j_iald X 12 (wM_12 ..) c5 dX12_judge_43 ?_
        refine j_aload_n X dX12_judge_44 rfl rfl ?_
        obtain ⟨q6, g_q6, hf⟩ := ob_t hf
        refine j_callV X [0, 1, 2, 3, 4, 5, 6, 7, 8, 9, 10, 11, 12, 13] 0 (c_X12_howMany E h g g_q6) (cut_wM_wM_c ..) rfl rfl (ws' := (wM E h g q6.1)) (cut_wM_wM_w ..) (wM_0 ..) rfl k_1198 k_1200 k_56 k_80 k_1201 (⟨rfl, rfl⟩) hdV_X12_howMany ⟨Nat.le_of_ble_eq_true rfl, Nat.le_of_ble_eq_true rfl⟩ rfl (Nat.le_of_ble_eq_true rfl) rfl dX12_judge_45 ?_
        refine j_icmp_ne (tgt := 63) X dX12_judge_48 (by decide) (fun c_48 => ?_) (fun c_48 => ?_)
        · replace hf := (if_neg c_48).symm.trans hf
          refine j_aload_n X dX12_judge_63 rfl rfl ?_
          refine j_iconst (v := (0 : Int32)) X dX12_judge_64 (by decide) ?_
          obtain ⟨q7, g_q7, hf⟩ := ob_t hf
          refine j_callV X [0, 1, 2, 3, 4, 5, 6, 7, 8, 9, 10, 11, 12, 13] 0 (c_X12_layBack E h g g_q7) (cut_wM_wM_c ..) rfl rfl (ws' := (wM E h g q7)) (cut_wM_wM_w ..) (wM_0 ..) rfl k_1190 k_1192 k_55 k_80 k_1193 (⟨rfl, rfl⟩) hdV_X12_layBack ⟨Nat.le_of_ble_eq_true rfl, Nat.le_of_ble_eq_true rfl⟩ rfl (Nat.le_of_ble_eq_true rfl) rfl dX12_judge_65 ?_
          refine j_iload_n X dX12_judge_68 rfl rfl ?_
          obtain rfl := Option.some.inj hf
          exact j_iret X hr hlk rfl dX12_judge_69 hQ
        · replace hf := (if_pos c_48).symm.trans hf
          refine j_aload_n X dX12_judge_51 rfl rfl ?_
          obtain ⟨q8, g_q8, hf⟩ := ob_t hf
          refine j_callV X [0, 1, 2, 3, 4, 5, 6, 7, 8, 9, 10, 11, 12, 13] 0 (c_X12_minute E h g g_q8) (cut_wM_wM_c ..) rfl rfl (ws' := (wM E h g q8.1)) (cut_wM_wM_w ..) (wM_0 ..) rfl k_1149 k_1151 k_50 k_80 k_1152 (⟨rfl, rfl⟩) hdV_X12_minute ⟨Nat.le_of_ble_eq_true rfl, Nat.le_of_ble_eq_true rfl⟩ rfl (Nat.le_of_ble_eq_true rfl) rfl dX12_judge_52 ?_
          refine j_istore4 X dX12_judge_55 (by decide) rfl ?_
          refine j_iinc3 (k := (1 : Int32)) X dX12_judge_57 (by decide) (by decide) rfl ?_
          refine j_goto (tgt := 23) X dX12_judge_60 (by decide) ?_
          refine j_keep [true, true, false, true, false] rfl ?_
          exact ih _ _ _ hf
  rw [f_X12_judge] at hf
  refine j_aload_n X dX12_judge_0 rfl rfl ?_
  refine j_iload_n X dX12_judge_1 rfl rfl ?_
  obtain ⟨q1, g_q1, hf⟩ := ob_t hf
  refine j_callV X [0, 1, 2, 3, 4, 5, 6, 7, 8, 9, 10, 11, 12, 13] 0 (c_X12_lacks E h g g_q1) (cut_wM_wM_c ..) rfl rfl (ws' := (wM E h g q1.1)) (cut_wM_wM_w ..) (wM_0 ..) rfl k_1302 k_1304 k_66 k_80 k_1305 (⟨rfl, rfl⟩) hdV_X12_lacks ⟨Nat.le_of_ble_eq_true rfl, Nat.le_of_ble_eq_true rfl⟩ rfl (Nat.le_of_ble_eq_true rfl) rfl dX12_judge_2 ?_
  refine j_istore_n2 X dX12_judge_5 rfl (by decide) rfl ?_
  refine j_iload_n X dX12_judge_6 rfl rfl ?_
  refine j_if_le (tgt := 16) X dX12_judge_7 (by decide) (fun c_7 => ?_) (fun c_7 => ?_)
  · replace hf := (if_pos c_7).symm.trans hf
    refine j_aload_n X dX12_judge_16 rfl rfl ?_
    refine j_iconst (v := (0 : Int32)) X dX12_judge_17 (by decide) ?_
    obtain ⟨q2, g_q2, hf⟩ := ob_t hf
    refine j_callV X [0, 1, 2, 3, 4, 5, 6, 7, 8, 9, 10, 11, 12, 13] 0 (c_X12_layDown E h g g_q2) (cut_wM_wM_c ..) rfl rfl (ws' := (wM E h g q2)) (cut_wM_wM_w ..) (wM_0 ..) rfl k_1186 k_1188 k_54 k_80 k_1189 (⟨rfl, rfl⟩) hdV_X12_layDown ⟨Nat.le_of_ble_eq_true rfl, Nat.le_of_ble_eq_true rfl⟩ rfl (Nat.le_of_ble_eq_true rfl) rfl dX12_judge_18 ?_
    refine j_iconst (v := (0 : Int32)) X dX12_judge_21 (by decide) ?_
    refine j_istore_n3 X dX12_judge_22 rfl (by decide) rfl ?_
    refine j_keep [true, true, false, true, false] rfl ?_
    exact lab23 _ _ _ _ hf
  · replace hf := (if_neg c_7).symm.trans hf
    refine j_aload_n X dX12_judge_10 rfl rfl ?_
    refine j_iload_n X dX12_judge_11 rfl rfl ?_
    obtain ⟨q9, g_q9, hf⟩ := ob_t hf
    refine j_callV X [0, 1, 2, 3, 4, 5, 6, 7, 8, 9, 10, 11, 12, 13] 0 (c_X12_error E h g g_q9) (cut_wM_wM_c ..) rfl rfl (ws' := (wM E h g q9.1)) (cut_wM_wM_w ..) (wM_0 ..) rfl k_987 k_989 k_24 k_80 k_990 (⟨rfl, rfl⟩) hdV_X12_error ⟨Nat.le_of_ble_eq_true rfl, Nat.le_of_ble_eq_true rfl⟩ rfl (Nat.le_of_ble_eq_true rfl) rfl dX12_judge_12 ?_
    obtain rfl := Option.some.inj hf
    exact j_iret X hr hlk rfl dX12_judge_15 hQ
theorem cut_wM_wA2_1_2_c (E : Ev) (h : Nat → Nat) (g : Nat → Option Nat) (μ : Mem) : ([1, 2] : List Nat).map (fun i => (wM E h g μ)[i]?) = (wA2 E (fun j => h (List.getD [1, 2] j 0)) (fun j => g (List.getD ([] : List Nat) j 0)) (sub [1, 2] μ)).map some := rfl
theorem cut_wM_wA2_1_2_w (E : Ev) (h : Nat → Nat) (g : Nat → Option Nat) (μ : Mem) (ν : Mem) : putW (wM E h g μ) [1, 2] (wA2 E (fun j => h (List.getD [1, 2] j 0)) (fun j => g (List.getD ([] : List Nat) j 0)) ν) = wM E h g (put [1, 2] μ ν) := putW_A (by decide +kernel) rfl rfl
def f_X12_image (μ : Mem) : Option (Mem × Int32) := (f_X12_carry (sub [1, 2] μ)).bind fun q1 => (bd (put [1, 2] μ q1) fun μ2 => (bd (upA μ2 0 (upd (μ2 0) 3 ((μ2 0 3) + (1 : Int32)))) fun μ3 => (some (μ3, (μ3 0 3)))))
set_option maxHeartbeats 4000000 in
set_option maxRecDepth 20000 in
theorem c_X12_image (E : Ev) (h : Nat → Nat) (g : Nat → Option Nat) {μ : Mem} {r : (Mem × Int32)} (hf : f_X12_image μ = some r) : Ct E yX12_image cX12_image 1 (some .int) (rmOf 1 22) (wM E h g μ) (wM E h g r.1) [.ref (h 0)] (some (.int r.2)) := by
  refine ct_start RX12 0 (by decide) rfl (Nat.le_of_ble_eq_true rfl) ?_
  intro p l e s m args below meth c A Q X hr hlk hQ
  rw [f_X12_image] at hf
  refine j_aload_n X dX12_image_0 rfl rfl ?_
  refine j_get (C := RX12) (T := TX12) (N := 21) X iX12 0 (wM_0 ..) rfl 0 (by decide) k_916 rfl rfl dX12_image_1 ?_
  refine j_aload_n X dX12_image_4 rfl rfl ?_
  refine j_get (C := RX12) (T := TX12) (N := 21) X iX12 0 (wM_0 ..) rfl 1 (by decide) k_917 rfl rfl dX12_image_5 ?_
  obtain ⟨q1, g_q1, hf⟩ := ob_t hf
  obtain ⟨μ2, e_μ2, hf⟩ := bd_e hf
  refine j_callS X [1, 2] (c_X12_carry E (fun j => h (List.getD [1, 2] j 0)) (fun j => g (List.getD [] j 0)) g_q1) (cut_wM_wA2_1_2_c ..) rfl rfl (ws' := (wM E h g μ2)) (by rw [e_μ2]; exact cut_wM_wA2_1_2_w ..) k_1314 k_1315 k_80 k_1316 (⟨rfl, rfl⟩) hdS_X12_carry ⟨Nat.le_of_ble_eq_true rfl, Nat.le_of_ble_eq_true rfl⟩ rfl (Nat.le_of_ble_eq_true rfl) rfl dX12_image_8 ?_
  refine j_aload_n X dX12_image_11 rfl rfl ?_
  refine j_dup X dX12_image_12 rfl ?_
  refine j_get (C := RX12) (T := TX12) (N := 21) X iX12 0 (wM_0 ..) rfl 3 (by decide) k_919 rfl rfl dX12_image_13 ?_
  refine j_iconst (v := (1 : Int32)) X dX12_image_16 (by decide) ?_
  refine j_iadd X dX12_image_17 ?_
  obtain ⟨μ3, e_μ3, hf⟩ := bd_e hf
  refine j_put (C := RX12) (T := TX12) (N := 21) X iX12 0 (wM_0 ..) rfl 3 (by decide) k_919 rfl tyX12 tyX12_ok nmX12 rfl (ty := .int) (by decide +kernel) rfl rfl (Nat.le_of_ble_eq_true rfl) dX12_image_18 (ws' := (wM E h g μ3)) (by rw [e_μ3]; exact wM_f0_3 ..) ?_
  refine j_aload_n X dX12_image_21 rfl rfl ?_
  refine j_get (C := RX12) (T := TX12) (N := 21) X iX12 0 (wM_0 ..) rfl 3 (by decide) k_919 rfl rfl dX12_image_22 ?_
  obtain rfl := Option.some.inj hf
  exact j_iret X hr hlk rfl dX12_image_25 hQ
theorem cut_wM_wA2_2_1_c (E : Ev) (h : Nat → Nat) (g : Nat → Option Nat) (μ : Mem) : ([2, 1] : List Nat).map (fun i => (wM E h g μ)[i]?) = (wA2 E (fun j => h (List.getD [2, 1] j 0)) (fun j => g (List.getD ([] : List Nat) j 0)) (sub [2, 1] μ)).map some := rfl
theorem cut_wM_wA2_2_1_w (E : Ev) (h : Nat → Nat) (g : Nat → Option Nat) (μ : Mem) (ν : Mem) : putW (wM E h g μ) [2, 1] (wA2 E (fun j => h (List.getD [2, 1] j 0)) (fun j => g (List.getD ([] : List Nat) j 0)) ν) = wM E h g (put [2, 1] μ ν) := putW_A (by decide +kernel) rfl rfl
def f_X12_restore (μ : Mem) : Option (Mem × Int32) := (if (μ 0 3) = 0 then (f_X12_error μ (2 : Int32)).bind fun q4 => (some (q4.1, q4.2)) else (f_X12_carry (sub [2, 1] μ)).bind fun q1 => (bd (put [2, 1] μ q1) fun μ2 => ((if inb (0 : Int32) 387 = true then some (μ2, (μ2 1 (0 : Int32).toNatClampNeg)) else none))))
set_option maxHeartbeats 4000000 in
set_option maxRecDepth 20000 in
theorem c_X12_restore (E : Ev) (h : Nat → Nat) (g : Nat → Option Nat) {μ : Mem} {r : (Mem × Int32)} (hf : f_X12_restore μ = some r) : Ct E yX12_restore cX12_restore 1 (some .int) (rmOf 1 22) (wM E h g μ) (wM E h g r.1) [.ref (h 0)] (some (.int r.2)) := by
  refine ct_start RX12 0 (by decide) rfl (Nat.le_of_ble_eq_true rfl) ?_
  intro p l e s m args below meth c A Q X hr hlk hQ
  rw [f_X12_restore] at hf
  refine j_aload_n X dX12_restore_0 rfl rfl ?_
  refine j_get (C := RX12) (T := TX12) (N := 21) X iX12 0 (wM_0 ..) rfl 3 (by decide) k_919 rfl rfl dX12_restore_1 ?_
  refine j_if_ne (tgt := 13) X dX12_restore_4 (by decide) (fun c_4 => ?_) (fun c_4 => ?_)
  · replace hf := (if_neg c_4).symm.trans hf
    refine j_aload_n X dX12_restore_13 rfl rfl ?_
    refine j_get (C := RX12) (T := TX12) (N := 21) X iX12 0 (wM_0 ..) rfl 1 (by decide) k_917 rfl rfl dX12_restore_14 ?_
    refine j_aload_n X dX12_restore_17 rfl rfl ?_
    refine j_get (C := RX12) (T := TX12) (N := 21) X iX12 0 (wM_0 ..) rfl 0 (by decide) k_916 rfl rfl dX12_restore_18 ?_
    obtain ⟨q1, g_q1, hf⟩ := ob_t hf
    obtain ⟨μ2, e_μ2, hf⟩ := bd_e hf
    refine j_callS X [2, 1] (c_X12_carry E (fun j => h (List.getD [2, 1] j 0)) (fun j => g (List.getD [] j 0)) g_q1) (cut_wM_wA2_2_1_c ..) rfl rfl (ws' := (wM E h g μ2)) (by rw [e_μ2]; exact cut_wM_wA2_2_1_w ..) k_1314 k_1315 k_80 k_1316 (⟨rfl, rfl⟩) hdS_X12_carry ⟨Nat.le_of_ble_eq_true rfl, Nat.le_of_ble_eq_true rfl⟩ rfl (Nat.le_of_ble_eq_true rfl) rfl dX12_restore_21 ?_
    refine j_aload_n X dX12_restore_24 rfl rfl ?_
    refine j_get (C := RX12) (T := TX12) (N := 21) X iX12 0 (wM_0 ..) rfl 0 (by decide) k_916 rfl rfl dX12_restore_25 ?_
    refine j_iconst (v := (0 : Int32)) X dX12_restore_28 (by decide) ?_
    obtain ⟨c3, hf⟩ := oi_in hf
    refine j_iald X 1 (wM_1 ..) c3 dX12_restore_29 ?_
    obtain rfl := Option.some.inj hf
    exact j_iret X hr hlk rfl dX12_restore_30 hQ
  · replace hf := (if_pos c_4).symm.trans hf
    refine j_aload_n X dX12_restore_7 rfl rfl ?_
    refine j_iconst (v := (2 : Int32)) X dX12_restore_8 (by decide) ?_
    obtain ⟨q4, g_q4, hf⟩ := ob_t hf
    refine j_callV X [0, 1, 2, 3, 4, 5, 6, 7, 8, 9, 10, 11, 12, 13] 0 (c_X12_error E h g g_q4) (cut_wM_wM_c ..) rfl rfl (ws' := (wM E h g q4.1)) (cut_wM_wM_w ..) (wM_0 ..) rfl k_987 k_989 k_24 k_80 k_990 (⟨rfl, rfl⟩) hdV_X12_error ⟨Nat.le_of_ble_eq_true rfl, Nat.le_of_ble_eq_true rfl⟩ rfl (Nat.le_of_ble_eq_true rfl) rfl dX12_restore_9 ?_
    obtain rfl := Option.some.inj hf
    exact j_iret X hr hlk rfl dX12_restore_12 hQ
def f_X12_tell (μ : Mem) (x1 : Int32) : Option (Mem × Int32) := (if inb (3 : Int32) 387 = true then (if (μ 1 (3 : Int32).toNatClampNeg) = (24 : Int32) then (f_X12_error μ (4 : Int32)).bind fun q9 => (some (q9.1, q9.2)) else (if inb (3 : Int32) 387 = true then (if inb ((363 : Int32) + (μ 1 (3 : Int32).toNatClampNeg)) 387 = true then bd (upA μ 1 (upd (μ 1) ((363 : Int32) + (μ 1 (3 : Int32).toNatClampNeg)).toNatClampNeg x1)) fun μ4 => ((if inb (3 : Int32) 387 = true then (if inb (3 : Int32) 387 = true then bd (upA μ4 1 (upd (μ4 1) (3 : Int32).toNatClampNeg ((μ4 1 (3 : Int32).toNatClampNeg) + (1 : Int32)))) fun μ7 => ((if inb (3 : Int32) 387 = true then some (μ7, (μ7 1 (3 : Int32).toNatClampNeg)) else none)) else none) else none)) else none) else none)) else none)
set_option maxHeartbeats 4000000 in
set_option maxRecDepth 20000 in
theorem c_X12_tell (E : Ev) (h : Nat → Nat) (g : Nat → Option Nat) {μ : Mem} {x1 : Int32} {r : (Mem × Int32)} (hf : f_X12_tell μ x1 = some r) : Ct E yX12_tell cX12_tell 2 (some .int) (rmOf 1 21) (wM E h g μ) (wM E h g r.1) [.ref (h 0), .int x1] (some (.int r.2)) := by
  refine ct_start RX12 0 (by decide) rfl (Nat.le_of_ble_eq_true rfl) ?_
  intro p l e s m args below meth c A Q X hr hlk hQ
  rw [f_X12_tell] at hf
  refine j_aload_n X dX12_tell_0 rfl rfl ?_
  refine j_get (C := RX12) (T := TX12) (N := 21) X iX12 0 (wM_0 ..) rfl 0 (by decide) k_916 rfl rfl dX12_tell_1 ?_
  refine j_iconst (v := (3 : Int32)) X dX12_tell_4 (by decide) ?_
  obtain ⟨c1, hf⟩ := oi_in hf
  refine j_iald X 1 (wM_1 ..) c1 dX12_tell_5 ?_
  refine j_bipush (v := (24 : Int32)) X dX12_tell_6 (by decide) ?_
  refine j_icmp_ne (tgt := 17) X dX12_tell_8 (by decide) (fun c_8 => ?_) (fun c_8 => ?_)
  · replace hf := (if_neg c_8).symm.trans hf
    refine j_aload_n X dX12_tell_17 rfl rfl ?_
    refine j_get (C := RX12) (T := TX12) (N := 21) X iX12 0 (wM_0 ..) rfl 0 (by decide) k_916 rfl rfl dX12_tell_18 ?_
    refine j_sipush (v := (363 : Int32)) X dX12_tell_21 (by decide) ?_
    refine j_aload_n X dX12_tell_24 rfl rfl ?_
    refine j_get (C := RX12) (T := TX12) (N := 21) X iX12 0 (wM_0 ..) rfl 0 (by decide) k_916 rfl rfl dX12_tell_25 ?_
    refine j_iconst (v := (3 : Int32)) X dX12_tell_28 (by decide) ?_
    obtain ⟨c2, hf⟩ := oi_in hf
    refine j_iald X 1 (wM_1 ..) c2 dX12_tell_29 ?_
    refine j_iadd X dX12_tell_30 ?_
    refine j_iload_n X dX12_tell_31 rfl rfl ?_
    obtain ⟨c3, hf⟩ := oi_in hf
    obtain ⟨μ4, e_μ4, hf⟩ := bd_e hf
    refine j_iast X 1 (wM_1 ..) c3 dX12_tell_32 (ws' := (wM E h g μ4)) (by rw [e_μ4]; exact wM_s1 ..) ?_
    refine j_aload_n X dX12_tell_33 rfl rfl ?_
    refine j_get (C := RX12) (T := TX12) (N := 21) X iX12 0 (wM_0 ..) rfl 0 (by decide) k_916 rfl rfl dX12_tell_34 ?_
    refine j_iconst (v := (3 : Int32)) X dX12_tell_37 (by decide) ?_
    refine j_dup2 X dX12_tell_38 rfl rfl ?_
    obtain ⟨c5, hf⟩ := oi_in hf
    refine j_iald X 1 (wM_1 ..) c5 dX12_tell_39 ?_
    refine j_iconst (v := (1 : Int32)) X dX12_tell_40 (by decide) ?_
    refine j_iadd X dX12_tell_41 ?_
    obtain ⟨c6, hf⟩ := oi_in hf
    obtain ⟨μ7, e_μ7, hf⟩ := bd_e hf
    refine j_iast X 1 (wM_1 ..) c6 dX12_tell_42 (ws' := (wM E h g μ7)) (by rw [e_μ7]; exact wM_s1 ..) ?_
    refine j_aload_n X dX12_tell_43 rfl rfl ?_
    refine j_get (C := RX12) (T := TX12) (N := 21) X iX12 0 (wM_0 ..) rfl 0 (by decide) k_916 rfl rfl dX12_tell_44 ?_
    refine j_iconst (v := (3 : Int32)) X dX12_tell_47 (by decide) ?_
    obtain ⟨c8, hf⟩ := oi_in hf
    refine j_iald X 1 (wM_1 ..) c8 dX12_tell_48 ?_
    obtain rfl := Option.some.inj hf
    exact j_iret X hr hlk rfl dX12_tell_49 hQ
  · replace hf := (if_pos c_8).symm.trans hf
    refine j_aload_n X dX12_tell_11 rfl rfl ?_
    refine j_iconst (v := (4 : Int32)) X dX12_tell_12 (by decide) ?_
    obtain ⟨q9, g_q9, hf⟩ := ob_t hf
    refine j_callV X [0, 1, 2, 3, 4, 5, 6, 7, 8, 9, 10, 11, 12, 13] 0 (c_X12_error E h g g_q9) (cut_wM_wM_c ..) rfl rfl (ws' := (wM E h g q9.1)) (cut_wM_wM_w ..) (wM_0 ..) rfl k_987 k_989 k_24 k_80 k_990 (⟨rfl, rfl⟩) hdV_X12_error ⟨Nat.le_of_ble_eq_true rfl, Nat.le_of_ble_eq_true rfl⟩ rfl (Nat.le_of_ble_eq_true rfl) rfl dX12_tell_13 ?_
    obtain rfl := Option.some.inj hf
    exact j_iret X hr hlk rfl dX12_tell_16 hQ
