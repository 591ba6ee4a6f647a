def f_X12_text_L101 : Nat → Mem → Int32 → Int32 → Option (Mem × Int32)
  | 0, _, _, _ => none
  | n + 1, μ, x3, x4 => (if ((2 : Int32) * (μ 0 7)) ≤ x4 then some (μ, (1 : Int32)) else (if inb x4 124 = true then (if inb ((x3 + (1 : Int32)) + x4) 387 = true then bd (upA μ 1 (upd (μ 1) ((x3 + (1 : Int32)) + x4).toNatClampNeg (μ 5 x4.toNatClampNeg))) fun μ14 => ((f_X12_text_L101 n) μ14 x3 (x4 + (1 : Int32))) else none) else none))
def f_X12_text_L60 (μ : Mem) (x1 : Int32) (t0 : Int32) : Option (Mem × Int32) := (if inb (2 : Int32) 387 = true then bd (upA μ 1 (upd (μ 1) (2 : Int32).toNatClampNeg (0 : Int32))) fun μ8 => ((if t0 = 0 then some (μ8, ((-10 : Int32) - (μ8 0 5))) else bd ((53 : Int32) + ((125 : Int32) * x1)) fun y9 => ((if inb y9 387 = true then bd (upA μ8 1 (upd (μ8 1) y9.toNatClampNeg (μ8 0 7))) fun μ11 => (f_X12_text_L101 fuel0 μ11 y9 (0 : Int32)) else none)))) else none)
def f_X12_text_L59 (μ : Mem) (x1 : Int32) : Option (Mem × Int32) := f_X12_text_L60 μ x1 (0 : Int32)
def f_X12_text (μ : Mem) (x1 : Int32) : Option (Mem × Int32) := (f_X12_in x1 (0 : Int32) (1 : Int32)).bind fun q1 => ((if q1 = 0 then (f_X12_error μ (1 : Int32)).bind fun q16 => (some (q16.1, q16.2)) else bd (upA μ 0 (upd (μ 0) 8 x1)) fun μ2 => (bd (upA μ2 0 (upd (μ2 0) 5 (0 : Int32))) fun μ3 => (bd (upA μ3 0 (upd (μ3 0) 6 (0 : Int32))) fun μ4 => (bd (upA μ4 0 (upd (μ4 0) 7 (0 : Int32))) fun μ5 => ((f_X12_whole μ5).bind fun q6 => ((if q6.2 = 0 then f_X12_text_L59 q6.1 x1 else (if inb (2 : Int32) 387 = true then (if (q6.1 0 5) = (q6.1 1 (2 : Int32).toNatClampNeg) then f_X12_text_L60 q6.1 x1 (1 : Int32) else f_X12_text_L59 q6.1 x1) else none)))))))))
set_option maxHeartbeats 4000000 in
set_option maxRecDepth 20000 in
theorem c_X12_text (E : Ev) (h : Nat → Nat) (g : Nat → Option Nat) {μ : Mem} {x1 : Int32} {r : (Mem × Int32)} (hf : f_X12_text μ x1 = some r) : Ct E yX12_text cX12_text 5 (some .int) (rmOf 65 1492) (wM E h g μ) (wM E h g r.1) [.ref (h 0), .int x1] (some (.int r.2)) := by
  refine ct_start RX12 3 (by decide) rfl (Nat.le_of_ble_eq_true rfl) ?_
  intro p l e s m args below meth c A Q X hr hlk hQ
  have lab101 : ∀ (n : Nat) (μ : Mem) (x3 : Int32) (x4 : Int32), f_X12_text_L101 n μ x3 x4 = some r → J p l e (rmOf 65 1492) s m args below meth c E A 5 Q (wM E h g μ) [some (.ref (h 0)), none, none, some (.int x3), some (.int x4)] 101 [] := by
    intro n
    induction n with
    | zero => intro μ x3 x4 hf; cases (show none = some r from hf)
    | succ n ih =>
      intro μ x3 x4 hf
      rw [f_X12_text_L101] at hf
      refine j_iload X dX12_text_101 rfl ?_
      refine j_iconst (v := (2 : Int32)) X dX12_text_103 (by decide) ?_
      refine j_aload_n X dX12_text_104 rfl rfl ?_
      refine j_get (C := RX12) (T := TX12) (N := 21) X iX12 0 (wM_0 ..) rfl 7 (by decide) k_923 rfl rfl dX12_text_105 ?_
      refine j_imul X dX12_text_108 ?_
      refine j_icmp_ge (tgt := 136) X dX12_text_109 (by decide) (fun c_109 => ?_) (fun c_109 => ?_)
      · replace hf := (if_pos c_109).symm.trans hf
        refine j_iconst (v := (1 : Int32)) X dX12_text_136 (by decide) ?_
        obtain rfl := Option.some.inj hf
        exact j_iret X hr hlk rfl dX12_text_137 hQ
      · replace hf := (if_neg c_109).symm.trans hf
        refine j_aload_n X dX12_text_112 rfl rfl ?_
        refine j_get (C := RX12) (T := TX12) (N := 21) X iX12 0 (wM_0 ..) rfl 0 (by decide) k_916 rfl rfl dX12_text_113 ?_
        refine j_iload_n X dX12_text_116 rfl rfl ?_
        refine j_iconst (v := (1 : Int32)) X dX12_text_117 (by decide) ?_
        refine j_iadd X dX12_text_118 ?_
        refine j_iload X dX12_text_119 rfl ?_
        refine j_iadd X dX12_text_121 ?_
        refine j_aload_n X dX12_text_122 rfl rfl ?_
        refine j_get (C := RX12) (T := TX12) (N := 21) X iX12 0 (wM_0 ..) rfl 9 (by decide) k_925 rfl rfl dX12_text_123 ?_
        refine j_iload X dX12_text_126 rfl ?_
        obtain ⟨c12, hf⟩ := oi_in hf
        refine j_iald X 5 (wM_5 ..) c12 dX12_text_128 ?_
        obtain ⟨c13, hf⟩ := oi_in hf
        obtain ⟨μ14, e_μ14, hf⟩ := bd_e hf
        refine j_iast X 1 (wM_1 ..) c13 dX12_text_129 (ws' := (wM E h g μ14)) (by rw [e_μ14]; exact wM_s1 ..) ?_
        refine j_iinc4 (k := (1 : Int32)) X dX12_text_130 (by decide) (by decide) rfl ?_
        refine j_goto (tgt := 101) X dX12_text_133 (by decide) ?_
        refine j_keep [true, false, false, true, true] rfl ?_
        exact ih _ _ _ hf
  have lab60 : ∀ (μ : Mem) (x1 : Int32) (t0 : Int32), f_X12_text_L60 μ x1 t0 = some r → J p l e (rmOf 65 1492) s m args below meth c E A 5 Q (wM E h g μ) [some (.ref (h 0)), some (.int x1), none, none, none] 60 [.int t0] := by
    intro  μ x1 t0 hf
    rw [f_X12_text_L60] at hf
    refine j_istore_n2 X dX12_text_60 rfl (by decide) rfl ?_
    refine j_aload_n X dX12_text_61 rfl rfl ?_
    refine j_get (C := RX12) (T := TX12) (N := 21) X iX12 0 (wM_0 ..) rfl 0 (by decide) k_916 rfl rfl dX12_text_62 ?_
    refine j_iconst (v := (2 : Int32)) X dX12_text_65 (by decide) ?_
    refine j_iconst (v := (0 : Int32)) X dX12_text_66 (by decide) ?_
    obtain ⟨c7, hf⟩ := oi_in hf
    obtain ⟨μ8, e_μ8, hf⟩ := bd_e hf
    refine j_iast X 1 (wM_1 ..) c7 dX12_text_67 (ws' := (wM E h g μ8)) (by rw [e_μ8]; exact wM_s1 ..) ?_
    refine j_iload_n X dX12_text_68 rfl rfl ?_
    refine j_if_ne (tgt := 80) X dX12_text_69 (by decide) (fun c_69 => ?_) (fun c_69 => ?_)
    · replace hf := (if_neg c_69).symm.trans hf
      refine j_bipush (v := (53 : Int32)) X dX12_text_80 (by decide) ?_
      refine j_bipush (v := (125 : Int32)) X dX12_text_82 (by decide) ?_
      refine j_iload_n X dX12_text_84 rfl rfl ?_
      refine j_imul X dX12_text_85 ?_
      refine j_iadd X dX12_text_86 ?_
      obtain ⟨y9, e_y9, hf⟩ := bd_e hf
      refine j_top e_y9 ?_
      refine j_istore_n3 X dX12_text_87 rfl (by decide) rfl ?_
      refine j_aload_n X dX12_text_88 rfl rfl ?_
      refine j_get (C := RX12) (T := TX12) (N := 21) X iX12 0 (wM_0 ..) rfl 0 (by decide) k_916 rfl rfl dX12_text_89 ?_
      refine j_iload_n X dX12_text_92 rfl rfl ?_
      refine j_aload_n X dX12_text_93 rfl rfl ?_
      refine j_get (C := RX12) (T := TX12) (N := 21) X iX12 0 (wM_0 ..) rfl 7 (by decide) k_923 rfl rfl dX12_text_94 ?_
      obtain ⟨c10, hf⟩ := oi_in hf
      obtain ⟨μ11, e_μ11, hf⟩ := bd_e hf
      refine j_iast X 1 (wM_1 ..) c10 dX12_text_97 (ws' := (wM E h g μ11)) (by rw [e_μ11]; exact wM_s1 ..) ?_
      refine j_iconst (v := (0 : Int32)) X dX12_text_98 (by decide) ?_
      refine j_istore4 X dX12_text_99 (by decide) rfl ?_
      refine j_keep [true, false, false, true, true] rfl ?_
      exact lab101 _ _ _ _ hf
    · replace hf := (if_pos c_69).symm.trans hf
      refine j_bipush (v := (-10 : Int32)) X dX12_text_72 (by decide) ?_
      refine j_aload_n X dX12_text_74 rfl rfl ?_
      refine j_get (C := RX12) (T := TX12) (N := 21) X iX12 0 (wM_0 ..) rfl 5 (by decide) k_921 rfl rfl dX12_text_75 ?_
      refine j_isub X dX12_text_78 ?_
      obtain rfl := Option.some.inj hf
      exact j_iret X hr hlk rfl dX12_text_79 hQ
  have lab59 : ∀ (μ : Mem) (x1 : Int32), f_X12_text_L59 μ x1 = some r → J p l e (rmOf 65 1492) s m args below meth c E A 5 Q (wM E h g μ) [some (.ref (h 0)), some (.int x1), none, none, none] 59 [] := by
    intro  μ x1 hf
    rw [f_X12_text_L59] at hf
    refine j_iconst (v := (0 : Int32)) X dX12_text_59 (by decide) ?_
    refine j_keep [true, true, false, false, false] rfl ?_
    exact lab60 _ _ _ hf
  rw [f_X12_text] at hf
  refine j_iload_n X dX12_text_0 rfl rfl ?_
  refine j_iconst (v := (0 : Int32)) X dX12_text_1 (by decide) ?_
  refine j_iconst (v := (1 : Int32)) X dX12_text_2 (by decide) ?_
  obtain ⟨q1, g_q1, hf⟩ := ob_t hf
  refine j_callS X [] (c_X12_in E g_q1) rfl rfl rfl (ws' := (wM E h g μ)) rfl k_984 k_985 k_80 k_986 (⟨rfl, rfl⟩) hdS_X12_in ⟨Nat.le_of_ble_eq_true rfl, Nat.le_of_ble_eq_true rfl⟩ rfl (Nat.le_of_ble_eq_true rfl) rfl dX12_text_3 ?_
  refine j_if_ne (tgt := 15) X dX12_text_6 (by decide) (fun c_6 => ?_) (fun c_6 => ?_)
  · replace hf := (if_neg c_6).symm.trans hf
    refine j_aload_n X dX12_text_15 rfl rfl ?_
    refine j_iload_n X dX12_text_16 rfl rfl ?_
    obtain ⟨μ2, e_μ2, hf⟩ := bd_e hf
    refine j_put (C := RX12) (T := TX12) (N := 21) X iX12 0 (wM_0 ..) rfl 8 (by decide) k_924 rfl tyX12 tyX12_ok nmX12 rfl (ty := .int) (by decide +kernel) rfl rfl (Nat.le_of_ble_eq_true rfl) dX12_text_17 (ws' := (wM E h g μ2)) (by rw [e_μ2]; exact wM_f0_8 ..) ?_
    refine j_aload_n X dX12_text_20 rfl rfl ?_
    refine j_iconst (v := (0 : Int32)) X dX12_text_21 (by decide) ?_
    obtain ⟨μ3, e_μ3, hf⟩ := bd_e hf
    refine j_put (C := RX12) (T := TX12) (N := 21) X iX12 0 (wM_0 ..) rfl 5 (by decide) k_921 rfl tyX12 tyX12_ok nmX12 rfl (ty := .int) (by decide +kernel) rfl rfl (Nat.le_of_ble_eq_true rfl) dX12_text_22 (ws' := (wM E h g μ3)) (by rw [e_μ3]; exact wM_f0_5 ..) ?_
    refine j_aload_n X dX12_text_25 rfl rfl ?_
    refine j_iconst (v := (0 : Int32)) X dX12_text_26 (by decide) ?_
    obtain ⟨μ4, e_μ4, hf⟩ := bd_e hf
    refine j_put (C := RX12) (T := TX12) (N := 21) X iX12 0 (wM_0 ..) rfl 6 (by decide) k_922 rfl tyX12 tyX12_ok nmX12 rfl (ty := .int) (by decide +kernel) rfl rfl (Nat.le_of_ble_eq_true rfl) dX12_text_27 (ws' := (wM E h g μ4)) (by rw [e_μ4]; exact wM_f0_6 ..) ?_
    refine j_aload_n X dX12_text_30 rfl rfl ?_
    refine j_iconst (v := (0 : Int32)) X dX12_text_31 (by decide) ?_
    obtain ⟨μ5, e_μ5, hf⟩ := bd_e hf
    refine j_put (C := RX12) (T := TX12) (N := 21) X iX12 0 (wM_0 ..) rfl 7 (by decide) k_923 rfl tyX12 tyX12_ok nmX12 rfl (ty := .int) (by decide +kernel) rfl rfl (Nat.le_of_ble_eq_true rfl) dX12_text_32 (ws' := (wM E h g μ5)) (by rw [e_μ5]; exact wM_f0_7 ..) ?_
    refine j_aload_n X dX12_text_35 rfl rfl ?_
    obtain ⟨q6, g_q6, hf⟩ := ob_t hf
    refine j_callV X [0, 1, 2, 3, 4, 5, 6, 7, 8, 9, 10, 11, 12, 13] 0 (c_X12_whole E h g g_q6) (cut_wM_wM_c ..) rfl rfl (ws' := (wM E h g q6.1)) (cut_wM_wM_w ..) (wM_0 ..) rfl k_997 k_999 k_25 k_80 k_1000 (⟨rfl, rfl⟩) hdV_X12_whole ⟨Nat.le_of_ble_eq_true rfl, Nat.le_of_ble_eq_true rfl⟩ rfl (Nat.le_of_ble_eq_true rfl) rfl dX12_text_36 ?_
    refine j_if_eq (tgt := 59) X dX12_text_39 (by decide) (fun c_39 => ?_) (fun c_39 => ?_)
    · replace hf := (if_pos c_39).symm.trans hf
      refine j_keep [true, true, false, false, false] rfl ?_
      exact lab59 _ _ hf
    · replace hf := (if_neg c_39).symm.trans hf
      refine j_aload_n X dX12_text_42 rfl rfl ?_
      refine j_get (C := RX12) (T := TX12) (N := 21) X iX12 0 (wM_0 ..) rfl 5 (by decide) k_921 rfl rfl dX12_text_43 ?_
      refine j_aload_n X dX12_text_46 rfl rfl ?_
      refine j_get (C := RX12) (T := TX12) (N := 21) X iX12 0 (wM_0 ..) rfl 0 (by decide) k_916 rfl rfl dX12_text_47 ?_
      refine j_iconst (v := (2 : Int32)) X dX12_text_50 (by decide) ?_
      obtain ⟨c15, hf⟩ := oi_in hf
      refine j_iald X 1 (wM_1 ..) c15 dX12_text_51 ?_
      refine j_icmp_ne (tgt := 59) X dX12_text_52 (by decide) (fun c_52 => ?_) (fun c_52 => ?_)
      · replace hf := (if_neg c_52).symm.trans hf
        refine j_keep [true, true, false, false, false] rfl ?_
        exact lab59 _ _ hf
      · replace hf := (if_pos c_52).symm.trans hf
        refine j_iconst (v := (1 : Int32)) X dX12_text_55 (by decide) ?_
        refine j_goto (tgt := 60) X dX12_text_56 (by decide) ?_
        refine j_keep [true, true, false, false, false] rfl ?_
        exact lab60 _ _ _ hf
  · replace hf := (if_pos c_6).symm.trans hf
    refine j_aload_n X dX12_text_9 rfl rfl ?_
    refine j_iconst (v := (1 : Int32)) X dX12_text_10 (by decide) ?_
    obtain ⟨q16, g_q16, hf⟩ := ob_t hf
    refine j_callV X [0, 1, 2, 3, 4, 5, 6, 7, 8, 9, 10, 11, 12, 13] 0 (c_X12_error E h g g_q16) (cut_wM_wM_c ..) rfl rfl (ws' := (wM E h g q16.1)) (cut_wM_wM_w ..) (wM_0 ..) rfl k_987 k_989 k_24 k_80 k_990 (⟨rfl, rfl⟩) hdV_X12_error ⟨Nat.le_of_ble_eq_true rfl, Nat.le_of_ble_eq_true rfl⟩ rfl (Nat.le_of_ble_eq_true rfl) rfl dX12_text_11 ?_
    obtain rfl := Option.some.inj hf
    exact j_iret X hr hlk rfl dX12_text_14 hQ
def f_X12_untell_L28 (μ : Mem) (x1 : Int32) (t0 : Int32) : Option (Mem × Int32) := (if inb ((53 : Int32) + ((125 : Int32) * x1)) 387 = true then bd (upA μ 1 (upd (μ 1) ((53 : Int32) + ((125 : Int32) * x1)).toNatClampNeg (0 : Int32))) fun μ4 => (some (μ4, t0)) else none)
def f_X12_untell (μ : Mem) (x1 : Int32) : Option (Mem × Int32) := (f_X12_in x1 (0 : Int32) (1 : Int32)).bind fun q1 => ((if q1 = 0 then (f_X12_error μ (1 : Int32)).bind fun q5 => (some (q5.1, q5.2)) else (f_X12_hasText μ x1).bind fun q2 => ((if q2.2 = 0 then f_X12_untell_L28 q2.1 x1 (0 : Int32) else f_X12_untell_L28 q2.1 x1 (1 : Int32)))))
set_option maxHeartbeats 4000000 in
set_option maxRecDepth 20000 in
theorem c_X12_untell (E : Ev) (h : Nat → Nat) (g : Nat → Option Nat) {μ : Mem} {x1 : Int32} {r : (Mem × Int32)} (hf : f_X12_untell μ x1 = some r) : Ct E yX12_untell cX12_untell 3 (some .int) (rmOf 1 22) (wM E h g μ) (wM E h g r.1) [.ref (h 0), .int x1] (some (.int r.2)) := by
  refine ct_start RX12 1 (by decide) rfl (Nat.le_of_ble_eq_true rfl) ?_
  intro p l e s m args below meth c A Q X hr hlk hQ
  have lab28 : ∀ (μ : Mem) (x1 : Int32) (t0 : Int32), f_X12_untell_L28 μ x1 t0 = some r → J p l e (rmOf 1 22) s m args below meth c E A 3 Q (wM E h g μ) [some (.ref (h 0)), some (.int x1), none] 28 [.int t0] := by
    intro  μ x1 t0 hf
    rw [f_X12_untell_L28] at hf
    refine j_istore_n2 X dX12_untell_28 rfl (by decide) rfl ?_
    refine j_aload_n X dX12_untell_29 rfl rfl ?_
    refine j_get (C := RX12) (T := TX12) (N := 21) X iX12 0 (wM_0 ..) rfl 0 (by decide) k_916 rfl rfl dX12_untell_30 ?_
    refine j_bipush (v := (53 : Int32)) X dX12_untell_33 (by decide) ?_
    refine j_bipush (v := (125 : Int32)) X dX12_untell_35 (by decide) ?_
    refine j_iload_n X dX12_untell_37 rfl rfl ?_
    refine j_imul X dX12_untell_38 ?_
    refine j_iadd X dX12_untell_39 ?_
    refine j_iconst (v := (0 : Int32)) X dX12_untell_40 (by decide) ?_
    obtain ⟨c3, hf⟩ := oi_in hf
    obtain ⟨μ4, e_μ4, hf⟩ := bd_e hf
    refine j_iast X 1 (wM_1 ..) c3 dX12_untell_41 (ws' := (wM E h g μ4)) (by rw [e_μ4]; exact wM_s1 ..) ?_
    refine j_iload_n X dX12_untell_42 rfl rfl ?_
    obtain rfl := Option.some.inj hf
    exact j_iret X hr hlk rfl dX12_untell_43 hQ
  rw [f_X12_untell] at hf
  refine j_iload_n X dX12_untell_0 rfl rfl ?_
  refine j_iconst (v := (0 : Int32)) X dX12_untell_1 (by decide) ?_
  refine j_iconst (v := (1 : Int32)) X dX12_untell_2 (by decide) ?_
  obtain ⟨q1, g_q1, hf⟩ := ob_t hf
  refine j_callS X [] (c_X12_in E g_q1) rfl rfl rfl (ws' := (wM E h g μ)) rfl k_984 k_985 k_80 k_986 (⟨rfl, rfl⟩) hdS_X12_in ⟨Nat.le_of_ble_eq_true rfl, Nat.le_of_ble_eq_true rfl⟩ rfl (Nat.le_of_ble_eq_true rfl) rfl dX12_untell_3 ?_
  refine j_if_ne (tgt := 15) X dX12_untell_6 (by decide) (fun c_6 => ?_) (fun c_6 => ?_)
  · replace hf := (if_neg c_6).symm.trans hf
    refine j_aload_n X dX12_untell_15 rfl rfl ?_
    refine j_iload_n X dX12_untell_16 rfl rfl ?_
    obtain ⟨q2, g_q2, hf⟩ := ob_t hf
    refine j_callV X [0, 1, 2, 3, 4, 5, 6, 7, 8, 9, 10, 11, 12, 13] 0 (c_X12_hasText E h g g_q2) (cut_wM_wM_c ..) rfl rfl (ws' := (wM E h g q2.1)) (cut_wM_wM_w ..) (wM_0 ..) rfl k_1041 k_1043 k_35 k_80 k_1044 (⟨rfl, rfl⟩) hdV_X12_hasText ⟨Nat.le_of_ble_eq_true rfl, Nat.le_of_ble_eq_true rfl⟩ rfl (Nat.le_of_ble_eq_true rfl) rfl dX12_untell_17 ?_
    refine j_if_eq (tgt := 27) X dX12_untell_20 (by decide) (fun c_20 => ?_) (fun c_20 => ?_)
    · replace hf := (if_pos c_20).symm.trans hf
      refine j_iconst (v := (0 : Int32)) X dX12_untell_27 (by decide) ?_
      refine j_keep [true, true, false] rfl ?_
      exact lab28 _ _ _ hf
    · replace hf := (if_neg c_20).symm.trans hf
      refine j_iconst (v := (1 : Int32)) X dX12_untell_23 (by decide) ?_
      refine j_goto (tgt := 28) X dX12_untell_24 (by decide) ?_
      refine j_keep [true, true, false] rfl ?_
      exact lab28 _ _ _ hf
  · replace hf := (if_pos c_6).symm.trans hf
    refine j_aload_n X dX12_untell_9 rfl rfl ?_
    refine j_iconst (v := (1 : Int32)) X dX12_untell_10 (by decide) ?_
    obtain ⟨q5, g_q5, hf⟩ := ob_t hf
    refine j_callV X [0, 1, 2, 3, 4, 5, 6, 7, 8, 9, 10, 11, 12, 13] 0 (c_X12_error E h g g_q5) (cut_wM_wM_c ..) rfl rfl (ws' := (wM E h g q5.1)) (cut_wM_wM_w ..) (wM_0 ..) rfl k_987 k_989 k_24 k_80 k_990 (⟨rfl, rfl⟩) hdV_X12_error ⟨Nat.le_of_ble_eq_true rfl, Nat.le_of_ble_eq_true rfl⟩ rfl (Nat.le_of_ble_eq_true rfl) rfl dX12_untell_11 ?_
    obtain rfl := Option.some.inj hf
    exact j_iret X hr hlk rfl dX12_untell_14 hQ
def f_X12_joined (x0 : Int32) (x1 : Int32) (x2 : Int32) : Option Int32 := (if x0 = (37 : Int32) then (if x2 = 0 then some (0 : Int32) else (if x2 = (-1 : Int32) then some (0 : Int32) else (if ¬ x2 = 0 then some (x1 - x1 / x2 * x2) else none))) else (if x0 = (38 : Int32) then (if x1 = 0 then some (0 : Int32) else (if x2 = 0 then some (0 : Int32) else some (1 : Int32))) else (if x0 = (42 : Int32) then some (x1 * x2) else (if x0 = (43 : Int32) then some (x1 + x2) else (if x0 = (45 : Int32) then some (x1 - x2) else (if x0 = (47 : Int32) then (if x2 = 0 then some (0 : Int32) else (if x2 = (-1 : Int32) then some (-x1) else (if ¬ x2 = 0 then some (x1 / x2) else none))) else (if x0 = (60 : Int32) then (if x2 ≤ x1 then some (0 : Int32) else some (1 : Int32)) else (if x0 = (61 : Int32) then (if x1 = x2 then some (1 : Int32) else some (0 : Int32)) else (if x0 = (62 : Int32) then (if x1 ≤ x2 then some (0 : Int32) else some (1 : Int32)) else (if x1 = 0 then (if x2 = 0 then some (0 : Int32) else some (1 : Int32)) else some (1 : Int32)))))))))))
set_option maxHeartbeats 4000000 in
set_option maxRecDepth 20000 in
theorem c_X12_joined (E : Ev) {x0 : Int32} {x1 : Int32} {x2 : Int32} {r : Int32} (hf : f_X12_joined x0 x1 x2 = some r) : Ct E yX12_joined cX12_joined 3 (some .int) (rmOf 0 0) [] [] [.int x0, .int x1, .int x2] (some (.int r)) := by
  refine ct_start RX12 0 (by decide) rfl (Nat.le_of_ble_eq_true rfl) ?_
  intro p l e s m args below meth c A Q X hr hlk hQ
  rw [f_X12_joined] at hf
  refine j_iload_n X dX12_joined_0 rfl rfl ?_
  by_cases n_1_0 : x0 = (37 : Int32)
  · replace hf := (if_pos n_1_0).symm.trans hf
    refine j_tsI (k := (37 : Int32)) (tgt := 154) X n_1_0 dX12_joined_1 (by decide) (by decide) rfl (by decide) ?_
    refine j_iload_n X dX12_joined_154 rfl rfl ?_
    refine j_if_eq (tgt := 163) X dX12_joined_155 (by decide) (fun c_155 => ?_) (fun c_155 => ?_)
    · replace hf := (if_pos c_155).symm.trans hf
      refine j_iconst (v := (0 : Int32)) X dX12_joined_163 (by decide) ?_
      refine j_goto (tgt := 170) X dX12_joined_164 (by decide) ?_
      obtain rfl := Option.some.inj hf
      exact j_iret X hr hlk rfl dX12_joined_170 hQ
    · replace hf := (if_neg c_155).symm.trans hf
      refine j_iload_n X dX12_joined_158 rfl rfl ?_
      refine j_iconst (v := (-1 : Int32)) X dX12_joined_159 (by decide) ?_
      refine j_icmp_ne (tgt := 167) X dX12_joined_160 (by decide) (fun c_160 => ?_) (fun c_160 => ?_)
      · replace hf := (if_neg c_160).symm.trans hf
        refine j_iload_n X dX12_joined_167 rfl rfl ?_
        refine j_iload_n X dX12_joined_168 rfl rfl ?_
        obtain ⟨c1, hf⟩ := oi_t hf
        refine j_irem X dX12_joined_169 c1 ?_
        obtain rfl := Option.some.inj hf
        exact j_iret X hr hlk rfl dX12_joined_170 hQ
      · replace hf := (if_pos c_160).symm.trans hf
        refine j_iconst (v := (0 : Int32)) X dX12_joined_163 (by decide) ?_
        refine j_goto (tgt := 170) X dX12_joined_164 (by decide) ?_
        obtain rfl := Option.some.inj hf
        exact j_iret X hr hlk rfl dX12_joined_170 hQ
  · replace hf := (if_neg n_1_0).symm.trans hf
    by_cases n_1_1 : x0 = (38 : Int32)
    · replace hf := (if_pos n_1_1).symm.trans hf
      refine j_tsI (k := (38 : Int32)) (tgt := 204) X n_1_1 dX12_joined_1 (by decide) (by decide) rfl (by decide) ?_
      refine j_iload_n X dX12_joined_204 rfl rfl ?_
      refine j_if_eq (tgt := 216) X dX12_joined_205 (by decide) (fun c_205 => ?_) (fun c_205 => ?_)
      · replace hf := (if_pos c_205).symm.trans hf
        refine j_iconst (v := (0 : Int32)) X dX12_joined_216 (by decide) ?_
        obtain rfl := Option.some.inj hf
        exact j_iret X hr hlk rfl dX12_joined_217 hQ
      · replace hf := (if_neg c_205).symm.trans hf
        refine j_iload_n X dX12_joined_208 rfl rfl ?_
        refine j_if_eq (tgt := 216) X dX12_joined_209 (by decide) (fun c_209 => ?_) (fun c_209 => ?_)
        · replace hf := (if_pos c_209).symm.trans hf
          refine j_iconst (v := (0 : Int32)) X dX12_joined_216 (by decide) ?_
          obtain rfl := Option.some.inj hf
          exact j_iret X hr hlk rfl dX12_joined_217 hQ
        · replace hf := (if_neg c_209).symm.trans hf
          refine j_iconst (v := (1 : Int32)) X dX12_joined_212 (by decide) ?_
          refine j_goto (tgt := 217) X dX12_joined_213 (by decide) ?_
          obtain rfl := Option.some.inj hf
          exact j_iret X hr hlk rfl dX12_joined_217 hQ
    · replace hf := (if_neg n_1_1).symm.trans hf
      by_cases n_1_2 : x0 = (42 : Int32)
      · replace hf := (if_pos n_1_2).symm.trans hf
        refine j_tsI (k := (42 : Int32)) (tgt := 128) X n_1_2 dX12_joined_1 (by decide) (by decide) rfl (by decide) ?_
        refine j_iload_n X dX12_joined_128 rfl rfl ?_
        refine j_iload_n X dX12_joined_129 rfl rfl ?_
        refine j_imul X dX12_joined_130 ?_
        obtain rfl := Option.some.inj hf
        exact j_iret X hr hlk rfl dX12_joined_131 hQ
      · replace hf := (if_neg n_1_2).symm.trans hf
        by_cases n_1_3 : x0 = (43 : Int32)
        · replace hf := (if_pos n_1_3).symm.trans hf
          refine j_tsI (k := (43 : Int32)) (tgt := 120) X n_1_3 dX12_joined_1 (by decide) (by decide) rfl (by decide) ?_
          refine j_iload_n X dX12_joined_120 rfl rfl ?_
          refine j_iload_n X dX12_joined_121 rfl rfl ?_
          refine j_iadd X dX12_joined_122 ?_
          obtain rfl := Option.some.inj hf
          exact j_iret X hr hlk rfl dX12_joined_123 hQ
        · replace hf := (if_neg n_1_3).symm.trans hf
          by_cases n_1_4 : x0 = (45 : Int32)
          · replace hf := (if_pos n_1_4).symm.trans hf
            refine j_tsI (k := (45 : Int32)) (tgt := 124) X n_1_4 dX12_joined_1 (by decide) (by decide) rfl (by decide) ?_
            refine j_iload_n X dX12_joined_124 rfl rfl ?_
            refine j_iload_n X dX12_joined_125 rfl rfl ?_
            refine j_isub X dX12_joined_126 ?_
            obtain rfl := Option.some.inj hf
            exact j_iret X hr hlk rfl dX12_joined_127 hQ
          · replace hf := (if_neg n_1_4).symm.trans hf
            by_cases n_1_5 : x0 = (47 : Int32)
            · replace hf := (if_pos n_1_5).symm.trans hf
              refine j_tsI (k := (47 : Int32)) (tgt := 132) X n_1_5 dX12_joined_1 (by decide) (by decide) rfl (by decide) ?_
              refine j_iload_n X dX12_joined_132 rfl rfl ?_
              refine j_if_ne (tgt := 140) X dX12_joined_133 (by decide) (fun c_133 => ?_) (fun c_133 => ?_)
              · replace hf := (if_neg c_133).symm.trans hf
                refine j_iload_n X dX12_joined_140 rfl rfl ?_
                refine j_iconst (v := (-1 : Int32)) X dX12_joined_141 (by decide) ?_
                refine j_icmp_ne (tgt := 150) X dX12_joined_142 (by decide) (fun c_142 => ?_) (fun c_142 => ?_)
                · replace hf := (if_neg c_142).symm.trans hf
                  refine j_iload_n X dX12_joined_150 rfl rfl ?_
                  refine j_iload_n X dX12_joined_151 rfl rfl ?_
                  obtain ⟨c2, hf⟩ := oi_t hf
                  refine j_idiv X dX12_joined_152 c2 ?_
                  obtain rfl := Option.some.inj hf
                  exact j_iret X hr hlk rfl dX12_joined_153 hQ
                · replace hf := (if_pos c_142).symm.trans hf
                  refine j_iload_n X dX12_joined_145 rfl rfl ?_
                  refine j_ineg X dX12_joined_146 ?_
                  refine j_goto (tgt := 153) X dX12_joined_147 (by decide) ?_
                  obtain rfl := Option.some.inj hf
                  exact j_iret X hr hlk rfl dX12_joined_153 hQ
              · replace hf := (if_pos c_133).symm.trans hf
                refine j_iconst (v := (0 : Int32)) X dX12_joined_136 (by decide) ?_
                refine j_goto (tgt := 153) X dX12_joined_137 (by decide) ?_
                obtain rfl := Option.some.inj hf
                exact j_iret X hr hlk rfl dX12_joined_153 hQ
            · replace hf := (if_neg n_1_5).symm.trans hf
              by_cases n_1_6 : x0 = (60 : Int32)
              · replace hf := (if_pos n_1_6).symm.trans hf
                refine j_tsI (k := (60 : Int32)) (tgt := 171) X n_1_6 dX12_joined_1 (by decide) (by decide) rfl (by decide) ?_
                refine j_iload_n X dX12_joined_171 rfl rfl ?_
                refine j_iload_n X dX12_joined_172 rfl rfl ?_
                refine j_icmp_ge (tgt := 180) X dX12_joined_173 (by decide) (fun c_173 => ?_) (fun c_173 => ?_)
                · replace hf := (if_pos c_173).symm.trans hf
                  refine j_iconst (v := (0 : Int32)) X dX12_joined_180 (by decide) ?_
                  obtain rfl := Option.some.inj hf
                  exact j_iret X hr hlk rfl dX12_joined_181 hQ
                · replace hf := (if_neg c_173).symm.trans hf
                  refine j_iconst (v := (1 : Int32)) X dX12_joined_176 (by decide) ?_
                  refine j_goto (tgt := 181) X dX12_joined_177 (by decide) ?_
                  obtain rfl := Option.some.inj hf
                  exact j_iret X hr hlk rfl dX12_joined_181 hQ
              · replace hf := (if_neg n_1_6).symm.trans hf
                by_cases n_1_7 : x0 = (61 : Int32)
                · replace hf := (if_pos n_1_7).symm.trans hf
                  refine j_tsI (k := (61 : Int32)) (tgt := 193) X n_1_7 dX12_joined_1 (by decide) (by decide) rfl (by decide) ?_
                  refine j_iload_n X dX12_joined_193 rfl rfl ?_
                  refine j_iload_n X dX12_joined_194 rfl rfl ?_
                  refine j_icmp_ne (tgt := 202) X dX12_joined_195 (by decide) (fun c_195 => ?_) (fun c_195 => ?_)
                  · replace hf := (if_neg c_195).symm.trans hf
                    refine j_iconst (v := (0 : Int32)) X dX12_joined_202 (by decide) ?_
                    obtain rfl := Option.some.inj hf
                    exact j_iret X hr hlk rfl dX12_joined_203 hQ
                  · replace hf := (if_pos c_195).symm.trans hf
                    refine j_iconst (v := (1 : Int32)) X dX12_joined_198 (by decide) ?_
                    refine j_goto (tgt := 203) X dX12_joined_199 (by decide) ?_
                    obtain rfl := Option.some.inj hf
                    exact j_iret X hr hlk rfl dX12_joined_203 hQ
                · replace hf := (if_neg n_1_7).symm.trans hf
                  by_cases n_1_8 : x0 = (62 : Int32)
                  · replace hf := (if_pos n_1_8).symm.trans hf
                    refine j_tsI (k := (62 : Int32)) (tgt := 182) X n_1_8 dX12_joined_1 (by decide) (by decide) rfl (by decide) ?_
                    refine j_iload_n X dX12_joined_182 rfl rfl ?_
                    refine j_iload_n X dX12_joined_183 rfl rfl ?_
                    refine j_icmp_le (tgt := 191) X dX12_joined_184 (by decide) (fun c_184 => ?_) (fun c_184 => ?_)
                    · replace hf := (if_pos c_184).symm.trans hf
                      refine j_iconst (v := (0 : Int32)) X dX12_joined_191 (by decide) ?_
                      obtain rfl := Option.some.inj hf
                      exact j_iret X hr hlk rfl dX12_joined_192 hQ
                    · replace hf := (if_neg c_184).symm.trans hf
                      refine j_iconst (v := (1 : Int32)) X dX12_joined_187 (by decide) ?_
                      refine j_goto (tgt := 192) X dX12_joined_188 (by decide) ?_
                      obtain rfl := Option.some.inj hf
                      exact j_iret X hr hlk rfl dX12_joined_192 hQ
                  · replace hf := (if_neg n_1_8).symm.trans hf
                    refine j_tsD (tgt := 218) X [37, 38, 42, 43, 45, 47, 60, 61, 62] (List.forall_mem_cons.mpr ⟨lv_neT n_1_0 (a := 37) rfl, List.forall_mem_cons.mpr ⟨lv_neT n_1_1 (a := 38) rfl, List.forall_mem_cons.mpr ⟨lv_neT n_1_2 (a := 42) rfl, List.forall_mem_cons.mpr ⟨lv_neT n_1_3 (a := 43) rfl, List.forall_mem_cons.mpr ⟨lv_neT n_1_4 (a := 45) rfl, List.forall_mem_cons.mpr ⟨lv_neT n_1_5 (a := 47) rfl, List.forall_mem_cons.mpr ⟨lv_neT n_1_6 (a := 60) rfl, List.forall_mem_cons.mpr ⟨lv_neT n_1_7 (a := 61) rfl, List.forall_mem_cons.mpr ⟨lv_neT n_1_8 (a := 62) rfl, fun _ h => by cases h⟩⟩⟩⟩⟩⟩⟩⟩⟩) (by decide) (by decide) dX12_joined_1 (by decide) ?_
                    refine j_iload_n X dX12_joined_218 rfl rfl ?_
                    refine j_if_ne (tgt := 226) X dX12_joined_219 (by decide) (fun c_219 => ?_) (fun c_219 => ?_)
                    · replace hf := (if_neg c_219).symm.trans hf
                      refine j_iconst (v := (1 : Int32)) X dX12_joined_226 (by decide) ?_
                      refine j_goto (tgt := 231) X dX12_joined_227 (by decide) ?_
                      obtain rfl := Option.some.inj hf
                      exact j_iret X hr hlk rfl dX12_joined_231 hQ
                    · replace hf := (if_pos c_219).symm.trans hf
                      refine j_iload_n X dX12_joined_222 rfl rfl ?_
                      refine j_if_eq (tgt := 230) X dX12_joined_223 (by decide) (fun c_223 => ?_) (fun c_223 => ?_)
                      · replace hf := (if_pos c_223).symm.trans hf
                        refine j_iconst (v := (0 : Int32)) X dX12_joined_230 (by decide) ?_
                        obtain rfl := Option.some.inj hf
                        exact j_iret X hr hlk rfl dX12_joined_231 hQ
                      · replace hf := (if_neg c_223).symm.trans hf
                        refine j_iconst (v := (1 : Int32)) X dX12_joined_226 (by decide) ?_
                        refine j_goto (tgt := 231) X dX12_joined_227 (by decide) ?_
                        obtain rfl := Option.some.inj hf
                        exact j_iret X hr hlk rfl dX12_joined_231 hQ
def f_X12_worked_L65 (K13 : Mem → Int32 → Int32 → Int32 → Option (Mem × Int32)) (μ : Mem) (x2 : Int32) (x3 : Int32) (x4 : Int32) (x5 : Int32) (x6 : Int32) : Option (Mem × Int32) := (if x5 = 0 then (if inb x3 64 = true then bd (upA μ 7 (upd (μ 7) x3.toNatClampNeg x6)) fun μ12 => (K13 μ12 x2 (x3 + (1 : Int32)) (x4 + (1 : Int32))) else none) else (if inb x6 128 = true then (if inb x3 64 = true then bd (upA μ 7 (upd (μ 7) x3.toNatClampNeg (μ 6 x6.toNatClampNeg))) fun μ10 => (K13 μ10 x2 (x3 + (1 : Int32)) (x4 + (1 : Int32))) else none) else none))
def f_X12_worked_L13 : Nat → Mem → Int32 → Int32 → Int32 → Option (Mem × Int32)
  | 0, _, _, _, _ => none
  | n + 1, μ, x2, x3, x4 => (if inb x2 387 = true then (if (μ 1 x2.toNatClampNeg) ≤ x4 then (if inb (0 : Int32) 64 = true then some (μ, (μ 7 (0 : Int32).toNatClampNeg)) else none) else (if inb ((x2 + (1 : Int32)) + ((2 : Int32) * x4)) 387 = true then bd (μ 1 ((x2 + (1 : Int32)) + ((2 : Int32) * x4)).toNatClampNeg) fun y5 => ((if inb ((x2 + (2 : Int32)) + ((2 : Int32) * x4)) 387 = true then bd (μ 1 ((x2 + (2 : Int32)) + ((2 : Int32) * x4)).toNatClampNeg) fun y7 => ((if y5 = 0 then f_X12_worked_L65 (f_X12_worked_L13 n) μ x2 x3 x4 y5 y7 else (if y5 = (1 : Int32) then f_X12_worked_L65 (f_X12_worked_L13 n) μ x2 x3 x4 y5 y7 else (if y5 = (2 : Int32) then (if inb (x3 - (1 : Int32)) 64 = true then (if (μ 7 (x3 - (1 : Int32)).toNatClampNeg) = 0 then (if inb (x3 - (1 : Int32)) 64 = true then bd (upA μ 7 (upd (μ 7) (x3 - (1 : Int32)).toNatClampNeg (1 : Int32))) fun μ22 => ((f_X12_worked_L13 n) μ22 x2 x3 (x4 + (1 : Int32))) else none) else (if inb (x3 - (1 : Int32)) 64 = true then bd (upA μ 7 (upd (μ 7) (x3 - (1 : Int32)).toNatClampNeg (0 : Int32))) fun μ20 => ((f_X12_worked_L13 n) μ20 x2 x3 (x4 + (1 : Int32))) else none)) else none) else (if inb ((x3 + (-1 : Int32)) - (1 : Int32)) 64 = true then (if inb (x3 + (-1 : Int32)) 64 = true then (f_X12_joined y7 (μ 7 ((x3 + (-1 : Int32)) - (1 : Int32)).toNatClampNeg) (μ 7 (x3 + (-1 : Int32)).toNatClampNeg)).bind fun q15 => ((if inb ((x3 + (-1 : Int32)) - (1 : Int32)) 64 = true then bd (upA μ 7 (upd (μ 7) ((x3 + (-1 : Int32)) - (1 : Int32)).toNatClampNeg q15)) fun μ17 => ((f_X12_worked_L13 n) μ17 x2 (x3 + (-1 : Int32)) (x4 + (1 : Int32))) else none)) else none) else none))))) else none)) else none)) else none)
def f_X12_worked (μ : Mem) (x1 : Int32) : Option (Mem × Int32) := bd ((53 : Int32) + ((125 : Int32) * x1)) fun y1 => (f_X12_worked_L13 fuel0 μ y1 (0 : Int32) (0 : Int32))
set_option maxHeartbeats 4000000 in
set_option maxRecDepth 20000 in
theorem c_X12_worked (E : Ev) (h : Nat → Nat) (g : Nat → Option Nat) {μ : Mem} {x1 : Int32} {r : (Mem × Int32)} (hf : f_X12_worked μ x1 = some r) : Ct E yX12_worked cX12_worked 7 (some .int) (rmOf 1 22) (wM E h g μ) (wM E h g r.1) [.ref (h 0), .int x1] (some (.int r.2)) := by
  refine ct_start RX12 5 (by decide) rfl (Nat.le_of_ble_eq_true rfl) ?_
  intro p l e s m args below meth c A Q X hr hlk hQ
  have lab65 : ∀ (K13 : Mem → Int32 → Int32 → Int32 → Option (Mem × Int32)) (hK13 : ∀ (μ : Mem) (x2 : Int32) (x3 : Int32) (x4 : Int32), K13 μ x2 x3 x4 = some r → J p l e (rmOf 1 22) s m args below meth c E A 7 Q (wM E h g μ) [some (.ref (h 0)), none, some (.int x2), some (.int x3), some (.int x4), none, none] 13 []) (μ : Mem) (x2 : Int32) (x3 : Int32) (x4 : Int32) (x5 : Int32) (x6 : Int32), f_X12_worked_L65 K13 μ x2 x3 x4 x5 x6 = some r → J p l e (rmOf 1 22) s m args below meth c E A 7 Q (wM E h g μ) [some (.ref (h 0)), none, some (.int x2), some (.int x3), some (.int x4), some (.int x5), some (.int x6)] 65 [] := by
    intro K13 hK13 μ x2 x3 x4 x5 x6 hf
    rw [f_X12_worked_L65] at hf
    refine j_aload_n X dX12_worked_65 rfl rfl ?_
    refine j_get (C := RX12) (T := TX12) (N := 21) X iX12 0 (wM_0 ..) rfl 11 (by decide) k_927 rfl rfl dX12_worked_66 ?_
    refine j_iload_n X dX12_worked_69 rfl rfl ?_
    refine j_iload X dX12_worked_70 rfl ?_
    refine j_if_ne (tgt := 80) X dX12_worked_72 (by decide) (fun c_72 => ?_) (fun c_72 => ?_)
    · replace hf := (if_neg c_72).symm.trans hf
      refine j_aload_n X dX12_worked_80 rfl rfl ?_
      refine j_get (C := RX12) (T := TX12) (N := 21) X iX12 0 (wM_0 ..) rfl 10 (by decide) k_926 rfl rfl dX12_worked_81 ?_
      refine j_iload X dX12_worked_84 rfl ?_
      obtain ⟨c8, hf⟩ := oi_in hf
      refine j_iald X 6 (wM_6 ..) c8 dX12_worked_86 ?_
      obtain ⟨c9, hf⟩ := oi_in hf
      obtain ⟨μ10, e_μ10, hf⟩ := bd_e hf
      refine j_iast X 7 (wM_7 ..) c9 dX12_worked_87 (ws' := (wM E h g μ10)) (by rw [e_μ10]; exact wM_s7 ..) ?_
      refine j_iinc3 (k := (1 : Int32)) X dX12_worked_88 (by decide) (by decide) rfl ?_
      refine j_goto (tgt := 157) X dX12_worked_91 (by decide) ?_
      refine j_iinc4 (k := (1 : Int32)) X dX12_worked_157 (by decide) (by decide) rfl ?_
      refine j_goto (tgt := 13) X dX12_worked_160 (by decide) ?_
      refine j_keep [true, false, true, true, true, false, false] rfl ?_
      exact hK13 _ _ _ _ hf
    · replace hf := (if_pos c_72).symm.trans hf
      refine j_iload X dX12_worked_75 rfl ?_
      refine j_goto (tgt := 87) X dX12_worked_77 (by decide) ?_
      obtain ⟨c11, hf⟩ := oi_in hf
      obtain ⟨μ12, e_μ12, hf⟩ := bd_e hf
      refine j_iast X 7 (wM_7 ..) c11 dX12_worked_87 (ws' := (wM E h g μ12)) (by rw [e_μ12]; exact wM_s7 ..) ?_
      refine j_iinc3 (k := (1 : Int32)) X dX12_worked_88 (by decide) (by decide) rfl ?_
      refine j_goto (tgt := 157) X dX12_worked_91 (by decide) ?_
      refine j_iinc4 (k := (1 : Int32)) X dX12_worked_157 (by decide) (by decide) rfl ?_
      refine j_goto (tgt := 13) X dX12_worked_160 (by decide) ?_
      refine j_keep [true, false, true, true, true, false, false] rfl ?_
      exact hK13 _ _ _ _ hf
  have lab13 : ∀ (n : Nat) (μ : Mem) (x2 : Int32) (x3 : Int32) (x4 : Int32), f_X12_worked_L13 n μ x2 x3 x4 = some r → J p l e (rmOf 1 22) s m args below meth c E A 7 Q (wM E h g μ) [some (.ref (h 0)), none, some (.int x2), some (.int x3), some (.int x4), none, none] 13 [] := by
    intro n
    induction n with
    | zero => intro μ x2 x3 x4 hf; cases (show none = some r from hf)
    | succ n ih =>
      intro μ x2 x3 x4 hf
      rw [f_X12_worked_L13] at hf
      refine j_iload X dX12_worked_13 rfl ?_
      refine j_aload_n X dX12_worked_15 rfl rfl ?_
      refine j_get (C := RX12) (T := TX12) (N := 21) X iX12 0 (wM_0 ..) rfl 0 (by decide) k_916 rfl rfl dX12_worked_16 ?_
      refine j_iload_n X dX12_worked_19 rfl rfl ?_
      obtain ⟨c2, hf⟩ := oi_in hf
      refine j_iald X 1 (wM_1 ..) c2 dX12_worked_20 ?_
      refine j_icmp_ge (tgt := 163) X dX12_worked_21 (by decide) (fun c_21 => ?_) (fun c_21 => ?_)
      · replace hf := (if_pos c_21).symm.trans hf
        refine j_aload_n X dX12_worked_163 rfl rfl ?_
        refine j_get (C := RX12) (T := TX12) (N := 21) X iX12 0 (wM_0 ..) rfl 11 (by decide) k_927 rfl rfl dX12_worked_164 ?_
        refine j_iconst (v := (0 : Int32)) X dX12_worked_167 (by decide) ?_
        obtain ⟨c3, hf⟩ := oi_in hf
        refine j_iald X 7 (wM_7 ..) c3 dX12_worked_168 ?_
        obtain rfl := Option.some.inj hf
        exact j_iret X hr hlk rfl dX12_worked_169 hQ
      · replace hf := (if_neg c_21).symm.trans hf
        refine j_aload_n X dX12_worked_24 rfl rfl ?_
        refine j_get (C := RX12) (T := TX12) (N := 21) X iX12 0 (wM_0 ..) rfl 0 (by decide) k_916 rfl rfl dX12_worked_25 ?_
        refine j_iload_n X dX12_worked_28 rfl rfl ?_
        refine j_iconst (v := (1 : Int32)) X dX12_worked_29 (by decide) ?_
        refine j_iadd X dX12_worked_30 ?_
        refine j_iconst (v := (2 : Int32)) X dX12_worked_31 (by decide) ?_
        refine j_iload X dX12_worked_32 rfl ?_
        refine j_imul X dX12_worked_34 ?_
        refine j_iadd X dX12_worked_35 ?_
        obtain ⟨c4, hf⟩ := oi_in hf
        refine j_iald X 1 (wM_1 ..) c4 dX12_worked_36 ?_
        obtain ⟨y5, e_y5, hf⟩ := bd_e hf
        refine j_top e_y5 ?_
        refine j_istore5 X dX12_worked_37 (by decide) rfl ?_
        refine j_aload_n X dX12_worked_39 rfl rfl ?_
        refine j_get (C := RX12) (T := TX12) (N := 21) X iX12 0 (wM_0 ..) rfl 0 (by decide) k_916 rfl rfl dX12_worked_40 ?_
        refine j_iload_n X dX12_worked_43 rfl rfl ?_
        refine j_iconst (v := (2 : Int32)) X dX12_worked_44 (by decide) ?_
        refine j_iadd X dX12_worked_45 ?_
        refine j_iconst (v := (2 : Int32)) X dX12_worked_46 (by decide) ?_
        refine j_iload X dX12_worked_47 rfl ?_
        refine j_imul X dX12_worked_49 ?_
        refine j_iadd X dX12_worked_50 ?_
        obtain ⟨c6, hf⟩ := oi_in hf
        refine j_iald X 1 (wM_1 ..) c6 dX12_worked_51 ?_
        obtain ⟨y7, e_y7, hf⟩ := bd_e hf
        refine j_top e_y7 ?_
        refine j_istore6 X dX12_worked_52 (by decide) rfl ?_
        refine j_iload X dX12_worked_54 rfl ?_
        refine j_if_eq (tgt := 65) X dX12_worked_56 (by decide) (fun c_56 => ?_) (fun c_56 => ?_)
        · replace hf := (if_pos c_56).symm.trans hf
          refine j_keep [true, false, true, true, true, true, true] rfl ?_
          exact lab65 _ ih _ _ _ _ _ _ hf
        · replace hf := (if_neg c_56).symm.trans hf
          refine j_iload X dX12_worked_59 rfl ?_
          refine j_iconst (v := (1 : Int32)) X dX12_worked_61 (by decide) ?_
          refine j_icmp_ne (tgt := 94) X dX12_worked_62 (by decide) (fun c_62 => ?_) (fun c_62 => ?_)
          · replace hf := (if_neg c_62).symm.trans hf
            refine j_iload X dX12_worked_94 rfl ?_
            refine j_iconst (v := (2 : Int32)) X dX12_worked_96 (by decide) ?_
            refine j_icmp_ne (tgt := 127) X dX12_worked_97 (by decide) (fun c_97 => ?_) (fun c_97 => ?_)
            · replace hf := (if_neg c_97).symm.trans hf
              refine j_iinc3 (k := (-1 : Int32)) X dX12_worked_127 (by decide) (by decide) rfl ?_
              refine j_aload_n X dX12_worked_130 rfl rfl ?_
              refine j_get (C := RX12) (T := TX12) (N := 21) X iX12 0 (wM_0 ..) rfl 11 (by decide) k_927 rfl rfl dX12_worked_131 ?_
              refine j_iload_n X dX12_worked_134 rfl rfl ?_
              refine j_iconst (v := (1 : Int32)) X dX12_worked_135 (by decide) ?_
              refine j_isub X dX12_worked_136 ?_
              refine j_iload X dX12_worked_137 rfl ?_
              refine j_aload_n X dX12_worked_139 rfl rfl ?_
              refine j_get (C := RX12) (T := TX12) (N := 21) X iX12 0 (wM_0 ..) rfl 11 (by decide) k_927 rfl rfl dX12_worked_140 ?_
              refine j_iload_n X dX12_worked_143 rfl rfl ?_
              refine j_iconst (v := (1 : Int32)) X dX12_worked_144 (by decide) ?_
              refine j_isub X dX12_worked_145 ?_
              obtain ⟨c13, hf⟩ := oi_in hf
              refine j_iald X 7 (wM_7 ..) c13 dX12_worked_146 ?_
              refine j_aload_n X dX12_worked_147 rfl rfl ?_
              refine j_get (C := RX12) (T := TX12) (N := 21) X iX12 0 (wM_0 ..) rfl 11 (by decide) k_927 rfl rfl dX12_worked_148 ?_
              refine j_iload_n X dX12_worked_151 rfl rfl ?_
              obtain ⟨c14, hf⟩ := oi_in hf
              refine j_iald X 7 (wM_7 ..) c14 dX12_worked_152 ?_
              obtain ⟨q15, g_q15, hf⟩ := ob_t hf
              refine j_callS X [] (c_X12_joined E g_q15) rfl rfl rfl (ws' := (wM E h g μ)) rfl k_1072 k_1073 k_80 k_1074 (⟨rfl, rfl⟩) hdS_X12_joined ⟨Nat.le_of_ble_eq_true rfl, Nat.le_of_ble_eq_true rfl⟩ rfl (Nat.le_of_ble_eq_true rfl) rfl dX12_worked_153 ?_
              obtain ⟨c16, hf⟩ := oi_in hf
              obtain ⟨μ17, e_μ17, hf⟩ := bd_e hf
              refine j_iast X 7 (wM_7 ..) c16 dX12_worked_156 (ws' := (wM E h g μ17)) (by rw [e_μ17]; exact wM_s7 ..) ?_
              refine j_iinc4 (k := (1 : Int32)) X dX12_worked_157 (by decide) (by decide) rfl ?_
              refine j_goto (tgt := 13) X dX12_worked_160 (by decide) ?_
              refine j_keep [true, false, true, true, true, false, false] rfl ?_
              exact ih _ _ _ _ hf
            · replace hf := (if_pos c_97).symm.trans hf
              refine j_aload_n X dX12_worked_100 rfl rfl ?_
              refine j_get (C := RX12) (T := TX12) (N := 21) X iX12 0 (wM_0 ..) rfl 11 (by decide) k_927 rfl rfl dX12_worked_101 ?_
              refine j_iload_n X dX12_worked_104 rfl rfl ?_
              refine j_iconst (v := (1 : Int32)) X dX12_worked_105 (by decide) ?_
              refine j_isub X dX12_worked_106 ?_
              refine j_aload_n X dX12_worked_107 rfl rfl ?_
              refine j_get (C := RX12) (T := TX12) (N := 21) X iX12 0 (wM_0 ..) rfl 11 (by decide) k_927 rfl rfl dX12_worked_108 ?_
              refine j_iload_n X dX12_worked_111 rfl rfl ?_
              refine j_iconst (v := (1 : Int32)) X dX12_worked_112 (by decide) ?_
              refine j_isub X dX12_worked_113 ?_
              obtain ⟨c18, hf⟩ := oi_in hf
              refine j_iald X 7 (wM_7 ..) c18 dX12_worked_114 ?_
              refine j_if_ne (tgt := 122) X dX12_worked_115 (by decide) (fun c_115 => ?_) (fun c_115 => ?_)
              · replace hf := (if_neg c_115).symm.trans hf
                refine j_iconst (v := (0 : Int32)) X dX12_worked_122 (by decide) ?_
                obtain ⟨c19, hf⟩ := oi_in hf
                obtain ⟨μ20, e_μ20, hf⟩ := bd_e hf
                refine j_iast X 7 (wM_7 ..) c19 dX12_worked_123 (ws' := (wM E h g μ20)) (by rw [e_μ20]; exact wM_s7 ..) ?_
                refine j_goto (tgt := 157) X dX12_worked_124 (by decide) ?_
                refine j_iinc4 (k := (1 : Int32)) X dX12_worked_157 (by decide) (by decide) rfl ?_
                refine j_goto (tgt := 13) X dX12_worked_160 (by decide) ?_
                refine j_keep [true, false, true, true, true, false, false] rfl ?_
                exact ih _ _ _ _ hf
              · replace hf := (if_pos c_115).symm.trans hf
                refine j_iconst (v := (1 : Int32)) X dX12_worked_118 (by decide) ?_
                refine j_goto (tgt := 123) X dX12_worked_119 (by decide) ?_
                obtain ⟨c21, hf⟩ := oi_in hf
                obtain ⟨μ22, e_μ22, hf⟩ := bd_e hf
                refine j_iast X 7 (wM_7 ..) c21 dX12_worked_123 (ws' := (wM E h g μ22)) (by rw [e_μ22]; exact wM_s7 ..) ?_
                refine j_goto (tgt := 157) X dX12_worked_124 (by decide) ?_
                refine j_iinc4 (k := (1 : Int32)) X dX12_worked_157 (by decide) (by decide) rfl ?_
                refine j_goto (tgt := 13) X dX12_worked_160 (by decide) ?_
                refine j_keep [true, false, true, true, true, false, false] rfl ?_
                exact ih _ _ _ _ hf
          · replace hf := (if_pos c_62).symm.trans hf
            refine j_keep [true, false, true, true, true, true, true] rfl ?_
            exact lab65 _ ih _ _ _ _ _ _ hf
  rw [f_X12_worked] at hf
  refine j_bipush (v := (53 : Int32)) X dX12_worked_0 (by decide) ?_
  refine j_bipush (v := (125 : Int32)) X dX12_worked_2 (by decide) ?_
  refine j_iload_n X dX12_worked_4 rfl rfl ?_
  refine j_imul X dX12_worked_5 ?_
  refine j_iadd X dX12_worked_6 ?_
  obtain ⟨y1, e_y1, hf⟩ := bd_e hf
  refine j_top e_y1 ?_
  refine j_istore_n2 X dX12_worked_7 rfl (by decide) rfl ?_
  refine j_iconst (v := (0 : Int32)) X dX12_worked_8 (by decide) ?_
  refine j_istore_n3 X dX12_worked_9 rfl (by decide) rfl ?_
  refine j_iconst (v := (0 : Int32)) X dX12_worked_10 (by decide) ?_
  refine j_istore4 X dX12_worked_11 (by decide) rfl ?_
  refine j_keep [true, false, true, true, true, false, false] rfl ?_
  exact lab13 _ _ _ _ _ hf
def f_X12_spendsTold (μ : Mem) (x1 : Int32) : Option (Mem × Int32) := (f_X12_hasText μ (0 : Int32)).bind fun q1 => ((if q1.2 = 0 then (if inb (1 : Int32) 387 = true then some (q1.1, ((1 : Int32) + (q1.1 1 (1 : Int32).toNatClampNeg))) else none) else (if inb (1 : Int32) 387 = true then (if inb (115 : Int32) 128 = true then bd (upA q1.1 6 (upd (q1.1 6) (115 : Int32).toNatClampNeg (q1.1 1 (1 : Int32).toNatClampNeg))) fun μ4 => ((f_X12_its μ4 x1 (3 : Int32)).bind fun q5 => ((if inb (112 : Int32) 128 = true then bd (upA q5.1 6 (upd (q5.1 6) (112 : Int32).toNatClampNeg q5.2)) fun μ7 => ((f_X12_its μ7 x1 (1 : Int32)).bind fun q8 => ((if inb (109 : Int32) 128 = true then bd (upA q8.1 6 (upd (q8.1 6) (109 : Int32).toNatClampNeg q8.2)) fun μ10 => ((f_X12_worked μ10 (0 : Int32)).bind fun q11 => (some (q11.1, q11.2))) else none))) else none))) else none) else none)))
set_option maxHeartbeats 4000000 in
set_option maxRecDepth 20000 in
theorem c_X12_spendsTold (E : Ev) (h : Nat → Nat) (g : Nat → Option Nat) {μ : Mem} {x1 : Int32} {r : (Mem × Int32)} (hf : f_X12_spendsTold μ x1 = some r) : Ct E yX12_spendsTold cX12_spendsTold 2 (some .int) (rmOf 2 48) (wM E h g μ) (wM E h g r.1) [.ref (h 0), .int x1] (some (.int r.2)) := by
  refine ct_start RX12 0 (by decide) rfl (Nat.le_of_ble_eq_true rfl) ?_
  intro p l e s m args below meth c A Q X hr hlk hQ
  rw [f_X12_spendsTold] at hf
  refine j_aload_n X dX12_spendsTold_0 rfl rfl ?_
  refine j_iconst (v := (0 : Int32)) X dX12_spendsTold_1 (by decide) ?_
  obtain ⟨q1, g_q1, hf⟩ := ob_t hf
  refine j_callV X [0, 1, 2, 3, 4, 5, 6, 7, 8, 9, 10, 11, 12, 13] 0 (c_X12_hasText E h g g_q1) (cut_wM_wM_c ..) rfl rfl (ws' := (wM E h g q1.1)) (cut_wM_wM_w ..) (wM_0 ..) rfl k_1041 k_1043 k_35 k_80 k_1044 (⟨rfl, rfl⟩) hdV_X12_hasText ⟨Nat.le_of_ble_eq_true rfl, Nat.le_of_ble_eq_true rfl⟩ rfl (Nat.le_of_ble_eq_true rfl) rfl dX12_spendsTold_2 ?_
  refine j_if_ne (tgt := 17) X dX12_spendsTold_5 (by decide) (fun c_5 => ?_) (fun c_5 => ?_)
  · replace hf := (if_neg c_5).symm.trans hf
    refine j_aload_n X dX12_spendsTold_17 rfl rfl ?_
    refine j_get (C := RX12) (T := TX12) (N := 21) X iX12 0 (wM_0 ..) rfl 10 (by decide) k_926 rfl rfl dX12_spendsTold_18 ?_
    refine j_bipush (v := (115 : Int32)) X dX12_spendsTold_21 (by decide) ?_
    refine j_aload_n X dX12_spendsTold_23 rfl rfl ?_
    refine j_get (C := RX12) (T := TX12) (N := 21) X iX12 0 (wM_0 ..) rfl 0 (by decide) k_916 rfl rfl dX12_spendsTold_24 ?_
    refine j_iconst (v := (1 : Int32)) X dX12_spendsTold_27 (by decide) ?_
    obtain ⟨c2, hf⟩ := oi_in hf
    refine j_iald X 1 (wM_1 ..) c2 dX12_spendsTold_28 ?_
    obtain ⟨c3, hf⟩ := oi_in hf
    obtain ⟨μ4, e_μ4, hf⟩ := bd_e hf
    refine j_iast X 6 (wM_6 ..) c3 dX12_spendsTold_29 (ws' := (wM E h g μ4)) (by rw [e_μ4]; exact wM_s6 ..) ?_
    refine j_aload_n X dX12_spendsTold_30 rfl rfl ?_
    refine j_get (C := RX12) (T := TX12) (N := 21) X iX12 0 (wM_0 ..) rfl 10 (by decide) k_926 rfl rfl dX12_spendsTold_31 ?_
    refine j_bipush (v := (112 : Int32)) X dX12_spendsTold_34 (by decide) ?_
    refine j_aload_n X dX12_spendsTold_36 rfl rfl ?_
    refine j_iload_n X dX12_spendsTold_37 rfl rfl ?_
    refine j_iconst (v := (3 : Int32)) X dX12_spendsTold_38 (by decide) ?_
    obtain ⟨q5, g_q5, hf⟩ := ob_t hf
    refine j_callV X [0, 1, 2, 3, 4, 5, 6, 7, 8, 9, 10, 11, 12, 13] 0 (c_X12_its E h g g_q5) (cut_wM_wM_c ..) rfl rfl (ws' := (wM E h g q5.1)) (cut_wM_wM_w ..) (wM_0 ..) rfl k_1052 k_1054 k_36 k_80 k_1055 (⟨rfl, rfl⟩) hdV_X12_its ⟨Nat.le_of_ble_eq_true rfl, Nat.le_of_ble_eq_true rfl⟩ rfl (Nat.le_of_ble_eq_true rfl) rfl dX12_spendsTold_39 ?_
    obtain ⟨c6, hf⟩ := oi_in hf
    obtain ⟨μ7, e_μ7, hf⟩ := bd_e hf
    refine j_iast X 6 (wM_6 ..) c6 dX12_spendsTold_42 (ws' := (wM E h g μ7)) (by rw [e_μ7]; exact wM_s6 ..) ?_
    refine j_aload_n X dX12_spendsTold_43 rfl rfl ?_
    refine j_get (C := RX12) (T := TX12) (N := 21) X iX12 0 (wM_0 ..) rfl 10 (by decide) k_926 rfl rfl dX12_spendsTold_44 ?_
    refine j_bipush (v := (109 : Int32)) X dX12_spendsTold_47 (by decide) ?_
    refine j_aload_n X dX12_spendsTold_49 rfl rfl ?_
    refine j_iload_n X dX12_spendsTold_50 rfl rfl ?_
    refine j_iconst (v := (1 : Int32)) X dX12_spendsTold_51 (by decide) ?_
    obtain ⟨q8, g_q8, hf⟩ := ob_t hf
    refine j_callV X [0, 1, 2, 3, 4, 5, 6, 7, 8, 9, 10, 11, 12, 13] 0 (c_X12_its E h g g_q8) (cut_wM_wM_c ..) rfl rfl (ws' := (wM E h g q8.1)) (cut_wM_wM_w ..) (wM_0 ..) rfl k_1052 k_1054 k_36 k_80 k_1055 (⟨rfl, rfl⟩) hdV_X12_its ⟨Nat.le_of_ble_eq_true rfl, Nat.le_of_ble_eq_true rfl⟩ rfl (Nat.le_of_ble_eq_true rfl) rfl dX12_spendsTold_52 ?_
    obtain ⟨c9, hf⟩ := oi_in hf
    obtain ⟨μ10, e_μ10, hf⟩ := bd_e hf
    refine j_iast X 6 (wM_6 ..) c9 dX12_spendsTold_55 (ws' := (wM E h g μ10)) (by rw [e_μ10]; exact wM_s6 ..) ?_
    refine j_aload_n X dX12_spendsTold_56 rfl rfl ?_
    refine j_iconst (v := (0 : Int32)) X dX12_spendsTold_57 (by decide) ?_
    obtain ⟨q11, g_q11, hf⟩ := ob_t hf
    refine j_callV X [0, 1, 2, 3, 4, 5, 6, 7, 8, 9, 10, 11, 12, 13] 0 (c_X12_worked E h g g_q11) (cut_wM_wM_c ..) rfl rfl (ws' := (wM E h g q11.1)) (cut_wM_wM_w ..) (wM_0 ..) rfl k_1068 k_1070 k_39 k_80 k_1071 (⟨rfl, rfl⟩) hdV_X12_worked ⟨Nat.le_of_ble_eq_true rfl, Nat.le_of_ble_eq_true rfl⟩ rfl (Nat.le_of_ble_eq_true rfl) rfl dX12_spendsTold_58 ?_
    obtain rfl := Option.some.inj hf
    exact j_iret X hr hlk rfl dX12_spendsTold_61 hQ
  · replace hf := (if_pos c_5).symm.trans hf
    refine j_iconst (v := (1 : Int32)) X dX12_spendsTold_8 (by decide) ?_
    refine j_aload_n X dX12_spendsTold_9 rfl rfl ?_
    refine j_get (C := RX12) (T := TX12) (N := 21) X iX12 0 (wM_0 ..) rfl 0 (by decide) k_916 rfl rfl dX12_spendsTold_10 ?_
    refine j_iconst (v := (1 : Int32)) X dX12_spendsTold_13 (by decide) ?_
    obtain ⟨c12, hf⟩ := oi_in hf
    refine j_iald X 1 (wM_1 ..) c12 dX12_spendsTold_14 ?_
    refine j_iadd X dX12_spendsTold_15 ?_
    obtain rfl := Option.some.inj hf
    exact j_iret X hr hlk rfl dX12_spendsTold_16 hQ
def f_X12_spends (μ : Mem) (x1 : Int32) : Option (Mem × Int32) := (f_X12_its μ x1 (1 : Int32)).bind fun q1 => ((if inb (1 : Int32) 387 = true then bd ((1 : Int32) + (q1.1 1 (1 : Int32).toNatClampNeg)) fun y3 => ((f_X12_its q1.1 x1 (0 : Int32)).bind fun q4 => ((if q4.2 = (1 : Int32) then (f_X12_held (1 : Int32) (0 : Int32) (99 : Int32)).bind fun q5 => (some (q4.1, q5)) else (if q4.2 = (2 : Int32) then bd (y3 - (q1.2 / (2 : Int32))) fun y6 => ((f_X12_held y6 (0 : Int32) (99 : Int32)).bind fun q7 => (some (q4.1, q7))) else (if q4.2 = (4 : Int32) then bd ((1 : Int32) + (q1.2 - q1.2 / (3 : Int32) * (3 : Int32))) fun y8 => ((f_X12_held y8 (0 : Int32) (99 : Int32)).bind fun q9 => (some (q4.1, q9))) else (if q4.2 = (5 : Int32) then bd (y3 - (q1.2 / (2 : Int32))) fun y10 => ((f_X12_held y10 (0 : Int32) (99 : Int32)).bind fun q11 => (some (q4.1, q11))) else (if q4.2 = (6 : Int32) then (f_X12_spendsTold q4.1 x1).bind fun q12 => ((f_X12_held q12.2 (0 : Int32) (99 : Int32)).bind fun q13 => (some (q12.1, q13))) else (f_X12_held y3 (0 : Int32) (99 : Int32)).bind fun q14 => (some (q4.1, q14))))))))) else none))
set_option maxHeartbeats 4000000 in
set_option maxRecDepth 20000 in
theorem c_X12_spends (E : Ev) (h : Nat → Nat) (g : Nat → Option Nat) {μ : Mem} {x1 : Int32} {r : (Mem × Int32)} (hf : f_X12_spends μ x1 = some r) : Ct E yX12_spends cX12_spends 4 (some .int) (rmOf 3 69) (wM E h g μ) (wM E h g r.1) [.ref (h 0), .int x1] (some (.int r.2)) := by
  refine ct_start RX12 2 (by decide) rfl (Nat.le_of_ble_eq_true rfl) ?_
  intro p l e s m args below meth c A Q X hr hlk hQ
  rw [f_X12_spends] at hf
  refine j_aload_n X dX12_spends_0 rfl rfl ?_
  refine j_iload_n X dX12_spends_1 rfl rfl ?_
  refine j_iconst (v := (1 : Int32)) X dX12_spends_2 (by decide) ?_
  obtain ⟨q1, g_q1, hf⟩ := ob_t hf
  refine j_callV X [0, 1, 2, 3, 4, 5, 6, 7, 8, 9, 10, 11, 12, 13] 0 (c_X12_its E h g g_q1) (cut_wM_wM_c ..) rfl rfl (ws' := (wM E h g q1.1)) (cut_wM_wM_w ..) (wM_0 ..) rfl k_1052 k_1054 k_36 k_80 k_1055 (⟨rfl, rfl⟩) hdV_X12_its ⟨Nat.le_of_ble_eq_true rfl, Nat.le_of_ble_eq_true rfl⟩ rfl (Nat.le_of_ble_eq_true rfl) rfl dX12_spends_3 ?_
  refine j_istore_n2 X dX12_spends_6 rfl (by decide) rfl ?_
  refine j_iconst (v := (1 : Int32)) X dX12_spends_7 (by decide) ?_
  refine j_aload_n X dX12_spends_8 rfl rfl ?_
  refine j_get (C := RX12) (T := TX12) (N := 21) X iX12 0 (wM_0 ..) rfl 0 (by decide) k_916 rfl rfl dX12_spends_9 ?_
  refine j_iconst (v := (1 : Int32)) X dX12_spends_12 (by decide) ?_
  obtain ⟨c2, hf⟩ := oi_in hf
  refine j_iald X 1 (wM_1 ..) c2 dX12_spends_13 ?_
  refine j_iadd X dX12_spends_14 ?_
  obtain ⟨y3, e_y3, hf⟩ := bd_e hf
  refine j_top e_y3 ?_
  refine j_istore_n3 X dX12_spends_15 rfl (by decide) rfl ?_
  refine j_aload_n X dX12_spends_16 rfl rfl ?_
  refine j_iload_n X dX12_spends_17 rfl rfl ?_
  refine j_iconst (v := (0 : Int32)) X dX12_spends_18 (by decide) ?_
  obtain ⟨q4, g_q4, hf⟩ := ob_t hf
  refine j_callV X [0, 1, 2, 3, 4, 5, 6, 7, 8, 9, 10, 11, 12, 13] 0 (c_X12_its E h g g_q4) (cut_wM_wM_c ..) rfl rfl (ws' := (wM E h g q4.1)) (cut_wM_wM_w ..) (wM_0 ..) rfl k_1052 k_1054 k_36 k_80 k_1055 (⟨rfl, rfl⟩) hdV_X12_its ⟨Nat.le_of_ble_eq_true rfl, Nat.le_of_ble_eq_true rfl⟩ rfl (Nat.le_of_ble_eq_true rfl) rfl dX12_spends_19 ?_
  by_cases n_22_0 : q4.2 = (1 : Int32)
  · replace hf := (if_pos n_22_0).symm.trans hf
    refine j_tsI (k := (1 : Int32)) (tgt := 60) X n_22_0 dX12_spends_22 (by decide) (by decide) rfl (by decide) ?_
    refine j_iconst (v := (1 : Int32)) X dX12_spends_60 (by decide) ?_
    refine j_istore_n3 X dX12_spends_61 rfl (by decide) rfl ?_
    refine j_goto (tgt := 92) X dX12_spends_62 (by decide) ?_
    refine j_iload_n X dX12_spends_92 rfl rfl ?_
    refine j_iconst (v := (0 : Int32)) X dX12_spends_93 (by decide) ?_
    refine j_bipush (v := (99 : Int32)) X dX12_spends_94 (by decide) ?_
    obtain ⟨q5, g_q5, hf⟩ := ob_t hf
    refine j_callS X [] (c_X12_held E g_q5) rfl rfl rfl (ws' := (wM E h g q4.1)) rfl k_1075 k_1076 k_80 k_1077 (⟨rfl, rfl⟩) hdS_X12_held ⟨Nat.le_of_ble_eq_true rfl, Nat.le_of_ble_eq_true rfl⟩ rfl (Nat.le_of_ble_eq_true rfl) rfl dX12_spends_96 ?_
    obtain rfl := Option.some.inj hf
    exact j_iret X hr hlk rfl dX12_spends_99 hQ
  · replace hf := (if_neg n_22_0).symm.trans hf
    by_cases n_22_1 : q4.2 = (2 : Int32)
    · replace hf := (if_pos n_22_1).symm.trans hf
      refine j_tsI (k := (2 : Int32)) (tgt := 65) X n_22_1 dX12_spends_22 (by decide) (by decide) rfl (by decide) ?_
      refine j_iload_n X dX12_spends_65 rfl rfl ?_
      refine j_iload_n X dX12_spends_66 rfl rfl ?_
      refine j_iconst (v := (2 : Int32)) X dX12_spends_67 (by decide) ?_
      refine j_idiv X dX12_spends_68 (by decide) ?_
      refine j_isub X dX12_spends_69 ?_
      obtain ⟨y6, e_y6, hf⟩ := bd_e hf
      refine j_top e_y6 ?_
      refine j_istore_n3 X dX12_spends_70 rfl (by decide) rfl ?_
      refine j_goto (tgt := 92) X dX12_spends_71 (by decide) ?_
      refine j_iload_n X dX12_spends_92 rfl rfl ?_
      refine j_iconst (v := (0 : Int32)) X dX12_spends_93 (by decide) ?_
      refine j_bipush (v := (99 : Int32)) X dX12_spends_94 (by decide) ?_
      obtain ⟨q7, g_q7, hf⟩ := ob_t hf
      refine j_callS X [] (c_X12_held E g_q7) rfl rfl rfl (ws' := (wM E h g q4.1)) rfl k_1075 k_1076 k_80 k_1077 (⟨rfl, rfl⟩) hdS_X12_held ⟨Nat.le_of_ble_eq_true rfl, Nat.le_of_ble_eq_true rfl⟩ rfl (Nat.le_of_ble_eq_true rfl) rfl dX12_spends_96 ?_
      obtain rfl := Option.some.inj hf
      exact j_iret X hr hlk rfl dX12_spends_99 hQ
    · replace hf := (if_neg n_22_1).symm.trans hf
      by_cases n_22_2 : q4.2 = (4 : Int32)
      · replace hf := (if_pos n_22_2).symm.trans hf
        refine j_tsI (k := (4 : Int32)) (tgt := 74) X n_22_2 dX12_spends_22 (by decide) (by decide) rfl (by decide) ?_
        refine j_iconst (v := (1 : Int32)) X dX12_spends_74 (by decide) ?_
        refine j_iload_n X dX12_spends_75 rfl rfl ?_
        refine j_iconst (v := (3 : Int32)) X dX12_spends_76 (by decide) ?_
        refine j_irem X dX12_spends_77 (by decide) ?_
        refine j_iadd X dX12_spends_78 ?_
        obtain ⟨y8, e_y8, hf⟩ := bd_e hf
        refine j_top e_y8 ?_
        refine j_istore_n3 X dX12_spends_79 rfl (by decide) rfl ?_
        refine j_goto (tgt := 92) X dX12_spends_80 (by decide) ?_
        refine j_iload_n X dX12_spends_92 rfl rfl ?_
        refine j_iconst (v := (0 : Int32)) X dX12_spends_93 (by decide) ?_
        refine j_bipush (v := (99 : Int32)) X dX12_spends_94 (by decide) ?_
        obtain ⟨q9, g_q9, hf⟩ := ob_t hf
        refine j_callS X [] (c_X12_held E g_q9) rfl rfl rfl (ws' := (wM E h g q4.1)) rfl k_1075 k_1076 k_80 k_1077 (⟨rfl, rfl⟩) hdS_X12_held ⟨Nat.le_of_ble_eq_true rfl, Nat.le_of_ble_eq_true rfl⟩ rfl (Nat.le_of_ble_eq_true rfl) rfl dX12_spends_96 ?_
        obtain rfl := Option.some.inj hf
        exact j_iret X hr hlk rfl dX12_spends_99 hQ
      · replace hf := (if_neg n_22_2).symm.trans hf
        by_cases n_22_3 : q4.2 = (5 : Int32)
        · replace hf := (if_pos n_22_3).symm.trans hf
          refine j_tsI (k := (5 : Int32)) (tgt := 65) X n_22_3 dX12_spends_22 (by decide) (by decide) rfl (by decide) ?_
          refine j_iload_n X dX12_spends_65 rfl rfl ?_
          refine j_iload_n X dX12_spends_66 rfl rfl ?_
          refine j_iconst (v := (2 : Int32)) X dX12_spends_67 (by decide) ?_
          refine j_idiv X dX12_spends_68 (by decide) ?_
          refine j_isub X dX12_spends_69 ?_
          obtain ⟨y10, e_y10, hf⟩ := bd_e hf
          refine j_top e_y10 ?_
          refine j_istore_n3 X dX12_spends_70 rfl (by decide) rfl ?_
          refine j_goto (tgt := 92) X dX12_spends_71 (by decide) ?_
          refine j_iload_n X dX12_spends_92 rfl rfl ?_
          refine j_iconst (v := (0 : Int32)) X dX12_spends_93 (by decide) ?_
          refine j_bipush (v := (99 : Int32)) X dX12_spends_94 (by decide) ?_
          obtain ⟨q11, g_q11, hf⟩ := ob_t hf
          refine j_callS X [] (c_X12_held E g_q11) rfl rfl rfl (ws' := (wM E h g q4.1)) rfl k_1075 k_1076 k_80 k_1077 (⟨rfl, rfl⟩) hdS_X12_held ⟨Nat.le_of_ble_eq_true rfl, Nat.le_of_ble_eq_true rfl⟩ rfl (Nat.le_of_ble_eq_true rfl) rfl dX12_spends_96 ?_
          obtain rfl := Option.some.inj hf
          exact j_iret X hr hlk rfl dX12_spends_99 hQ
        · replace hf := (if_neg n_22_3).symm.trans hf
          by_cases n_22_4 : q4.2 = (6 : Int32)
          · replace hf := (if_pos n_22_4).symm.trans hf
            refine j_tsI (k := (6 : Int32)) (tgt := 83) X n_22_4 dX12_spends_22 (by decide) (by decide) rfl (by decide) ?_
            refine j_aload_n X dX12_spends_83 rfl rfl ?_
            refine j_iload_n X dX12_spends_84 rfl rfl ?_
            obtain ⟨q12, g_q12, hf⟩ := ob_t hf
            refine j_callV X [0, 1, 2, 3, 4, 5, 6, 7, 8, 9, 10, 11, 12, 13] 0 (c_X12_spendsTold E h g g_q12) (cut_wM_wM_c ..) rfl rfl (ws' := (wM E h g q12.1)) (cut_wM_wM_w ..) (wM_0 ..) rfl k_1064 k_1066 k_38 k_80 k_1067 (⟨rfl, rfl⟩) hdV_X12_spendsTold ⟨Nat.le_of_ble_eq_true rfl, Nat.le_of_ble_eq_true rfl⟩ rfl (Nat.le_of_ble_eq_true rfl) rfl dX12_spends_85 ?_
            refine j_istore_n3 X dX12_spends_88 rfl (by decide) rfl ?_
            refine j_goto (tgt := 92) X dX12_spends_89 (by decide) ?_
            refine j_iload_n X dX12_spends_92 rfl rfl ?_
            refine j_iconst (v := (0 : Int32)) X dX12_spends_93 (by decide) ?_
            refine j_bipush (v := (99 : Int32)) X dX12_spends_94 (by decide) ?_
            obtain ⟨q13, g_q13, hf⟩ := ob_t hf
            refine j_callS X [] (c_X12_held E g_q13) rfl rfl rfl (ws' := (wM E h g q12.1)) rfl k_1075 k_1076 k_80 k_1077 (⟨rfl, rfl⟩) hdS_X12_held ⟨Nat.le_of_ble_eq_true rfl, Nat.le_of_ble_eq_true rfl⟩ rfl (Nat.le_of_ble_eq_true rfl) rfl dX12_spends_96 ?_
            obtain rfl := Option.some.inj hf
            exact j_iret X hr hlk rfl dX12_spends_99 hQ
          · replace hf := (if_neg n_22_4).symm.trans hf
            refine j_tsD (tgt := 92) X [1, 2, 4, 5, 6] (List.forall_mem_cons.mpr ⟨lv_neT n_22_0 (a := 1) rfl, List.forall_mem_cons.mpr ⟨lv_neT n_22_1 (a := 2) rfl, List.forall_mem_cons.mpr ⟨lv_neT n_22_2 (a := 4) rfl, List.forall_mem_cons.mpr ⟨lv_neT n_22_3 (a := 5) rfl, List.forall_mem_cons.mpr ⟨lv_neT n_22_4 (a := 6) rfl, fun _ h => by cases h⟩⟩⟩⟩⟩) (by decide) (by decide) dX12_spends_22 (by decide) ?_
            refine j_iload_n X dX12_spends_92 rfl rfl ?_
            refine j_iconst (v := (0 : Int32)) X dX12_spends_93 (by decide) ?_
            refine j_bipush (v := (99 : Int32)) X dX12_spends_94 (by decide) ?_
            obtain ⟨q14, g_q14, hf⟩ := ob_t hf
            refine j_callS X [] (c_X12_held E g_q14) rfl rfl rfl (ws' := (wM E h g q4.1)) rfl k_1075 k_1076 k_80 k_1077 (⟨rfl, rfl⟩) hdS_X12_held ⟨Nat.le_of_ble_eq_true rfl, Nat.le_of_ble_eq_true rfl⟩ rfl (Nat.le_of_ble_eq_true rfl) rfl dX12_spends_96 ?_
            obtain rfl := Option.some.inj hf
            exact j_iret X hr hlk rfl dX12_spends_99 hQ
def f_X12_bite (μ : Mem) (x1 : Int32) : Option (Mem × Int32) := (f_X12_its μ x1 (0 : Int32)).bind fun q1 => ((if q1.2 = (1 : Int32) then some (q1.1, (0 : Int32)) else (if q1.2 = (3 : Int32) then (f_X12_its q1.1 x1 (1 : Int32)).bind fun q2 => (some (q2.1, ((10 : Int32) + ((3 : Int32) * q2.2)))) else (if q1.2 = (4 : Int32) then some (q1.1, (2 : Int32)) else (if q1.2 = (5 : Int32) then some (q1.1, (20 : Int32)) else some (q1.1, (10 : Int32)))))))
set_option maxHeartbeats 4000000 in
set_option maxRecDepth 20000 in
theorem c_X12_bite (E : Ev) (h : Nat → Nat) (g : Nat → Option Nat) {μ : Mem} {x1 : Int32} {r : (Mem × Int32)} (hf : f_X12_bite μ x1 = some r) : Ct E yX12_bite cX12_bite 2 (some .int) (rmOf 1 22) (wM E h g μ) (wM E h g r.1) [.ref (h 0), .int x1] (some (.int r.2)) := by
  refine ct_start RX12 0 (by decide) rfl (Nat.le_of_ble_eq_true rfl) ?_
  intro p l e s m args below meth c A Q X hr hlk hQ
  rw [f_X12_bite] at hf
  refine j_aload_n X dX12_bite_0 rfl rfl ?_
  refine j_iload_n X dX12_bite_1 rfl rfl ?_
  refine j_iconst (v := (0 : Int32)) X dX12_bite_2 (by decide) ?_
  obtain ⟨q1, g_q1, hf⟩ := ob_t hf
  refine j_callV X [0, 1, 2, 3, 4, 5, 6, 7, 8, 9, 10, 11, 12, 13] 0 (c_X12_its E h g g_q1) (cut_wM_wM_c ..) rfl rfl (ws' := (wM E h g q1.1)) (cut_wM_wM_w ..) (wM_0 ..) rfl k_1052 k_1054 k_36 k_80 k_1055 (⟨rfl, rfl⟩) hdV_X12_its ⟨Nat.le_of_ble_eq_true rfl, Nat.le_of_ble_eq_true rfl⟩ rfl (Nat.le_of_ble_eq_true rfl) rfl dX12_bite_3 ?_
  by_cases n_6_0 : q1.2 = (1 : Int32)
  · replace hf := (if_pos n_6_0).symm.trans hf
    refine j_tsI (k := (1 : Int32)) (tgt := 40) X n_6_0 dX12_bite_6 (by decide) (by decide) rfl (by decide) ?_
    refine j_iconst (v := (0 : Int32)) X dX12_bite_40 (by decide) ?_
    obtain rfl := Option.some.inj hf
    exact j_iret X hr hlk rfl dX12_bite_41 hQ
  · replace hf := (if_neg n_6_0).symm.trans hf
    by_cases n_6_1 : q1.2 = (3 : Int32)
    · replace hf := (if_pos n_6_1).symm.trans hf
      refine j_tsI (k := (3 : Int32)) (tgt := 42) X n_6_1 dX12_bite_6 (by decide) (by decide) rfl (by decide) ?_
      refine j_bipush (v := (10 : Int32)) X dX12_bite_42 (by decide) ?_
      refine j_iconst (v := (3 : Int32)) X dX12_bite_44 (by decide) ?_
      refine j_aload_n X dX12_bite_45 rfl rfl ?_
      refine j_iload_n X dX12_bite_46 rfl rfl ?_
      refine j_iconst (v := (1 : Int32)) X dX12_bite_47 (by decide) ?_
      obtain ⟨q2, g_q2, hf⟩ := ob_t hf
      refine j_callV X [0, 1, 2, 3, 4, 5, 6, 7, 8, 9, 10, 11, 12, 13] 0 (c_X12_its E h g g_q2) (cut_wM_wM_c ..) rfl rfl (ws' := (wM E h g q2.1)) (cut_wM_wM_w ..) (wM_0 ..) rfl k_1052 k_1054 k_36 k_80 k_1055 (⟨rfl, rfl⟩) hdV_X12_its ⟨Nat.le_of_ble_eq_true rfl, Nat.le_of_ble_eq_true rfl⟩ rfl (Nat.le_of_ble_eq_true rfl) rfl dX12_bite_48 ?_
      refine j_imul X dX12_bite_51 ?_
      refine j_iadd X dX12_bite_52 ?_
      obtain rfl := Option.some.inj hf
      exact j_iret X hr hlk rfl dX12_bite_53 hQ
    · replace hf := (if_neg n_6_1).symm.trans hf
      by_cases n_6_2 : q1.2 = (4 : Int32)
      · replace hf := (if_pos n_6_2).symm.trans hf
        refine j_tsI (k := (4 : Int32)) (tgt := 54) X n_6_2 dX12_bite_6 (by decide) (by decide) rfl (by decide) ?_
        refine j_iconst (v := (2 : Int32)) X dX12_bite_54 (by decide) ?_
        obtain rfl := Option.some.inj hf
        exact j_iret X hr hlk rfl dX12_bite_55 hQ
      · replace hf := (if_neg n_6_2).symm.trans hf
        by_cases n_6_3 : q1.2 = (5 : Int32)
        · replace hf := (if_pos n_6_3).symm.trans hf
          refine j_tsI (k := (5 : Int32)) (tgt := 56) X n_6_3 dX12_bite_6 (by decide) (by decide) rfl (by decide) ?_
          refine j_bipush (v := (20 : Int32)) X dX12_bite_56 (by decide) ?_
          obtain rfl := Option.some.inj hf
          exact j_iret X hr hlk rfl dX12_bite_58 hQ
        · replace hf := (if_neg n_6_3).symm.trans hf
          refine j_tsD (tgt := 59) X [1, 3, 4, 5] (List.forall_mem_cons.mpr ⟨lv_neT n_6_0 (a := 1) rfl, List.forall_mem_cons.mpr ⟨lv_neT n_6_1 (a := 3) rfl, List.forall_mem_cons.mpr ⟨lv_neT n_6_2 (a := 4) rfl, List.forall_mem_cons.mpr ⟨lv_neT n_6_3 (a := 5) rfl, fun _ h => by cases h⟩⟩⟩⟩) (by decide) (by decide) dX12_bite_6 (by decide) ?_
          refine j_bipush (v := (10 : Int32)) X dX12_bite_59 (by decide) ?_
          obtain rfl := Option.some.inj hf
          exact j_iret X hr hlk rfl dX12_bite_61 hQ
def f_X12_shaken_L11 (μ : Mem) (x1 : Int32) (x2 : Int32) (t0 : Int32) : Option (Mem × Int32) := (f_X12_hasText μ (1 : Int32)).bind fun q1 => ((if q1.2 = 0 then (f_X12_held t0 (0 : Int32) (99 : Int32)).bind fun q2 => (some (q1.1, q2)) else (if inb (100 : Int32) 128 = true then bd (upA q1.1 6 (upd (q1.1 6) (100 : Int32).toNatClampNeg x2)) fun μ4 => ((f_X12_its μ4 x1 (1 : Int32)).bind fun q5 => ((if inb (109 : Int32) 128 = true then bd (upA q5.1 6 (upd (q5.1 6) (109 : Int32).toNatClampNeg q5.2)) fun μ7 => ((f_X12_its μ7 x1 (3 : Int32)).bind fun q8 => ((if inb (112 : Int32) 128 = true then bd (upA q8.1 6 (upd (q8.1 6) (112 : Int32).toNatClampNeg q8.2)) fun μ10 => ((f_X12_worked μ10 (1 : Int32)).bind fun q11 => ((f_X12_held q11.2 (0 : Int32) (99 : Int32)).bind fun q12 => (some (q11.1, q12)))) else none))) else none))) else none)))
def f_X12_shaken (μ : Mem) (x1 : Int32) (x2 : Int32) : Option (Mem × Int32) := (if x2 = (1 : Int32) then f_X12_shaken_L11 μ x1 x2 (8 : Int32) else f_X12_shaken_L11 μ x1 x2 (0 : Int32))
set_option maxHeartbeats 4000000 in
set_option maxRecDepth 20000 in
theorem c_X12_shaken (E : Ev) (h : Nat → Nat) (g : Nat → Option Nat) {μ : Mem} {x1 : Int32} {x2 : Int32} {r : (Mem × Int32)} (hf : f_X12_shaken μ x1 x2 = some r) : Ct E yX12_shaken cX12_shaken 4 (some .int) (rmOf 2 48) (wM E h g μ) (wM E h g r.1) [.ref (h 0), .int x1, .int x2] (some (.int r.2)) := by
  refine ct_start RX12 1 (by decide) rfl (Nat.le_of_ble_eq_true rfl) ?_
  intro p l e s m args below meth c A Q X hr hlk hQ
  have lab11 : ∀ (μ : Mem) (x1 : Int32) (x2 : Int32) (t0 : Int32), f_X12_shaken_L11 μ x1 x2 t0 = some r → J p l e (rmOf 2 48) s m args below meth c E A 4 Q (wM E h g μ) [some (.ref (h 0)), some (.int x1), some (.int x2), none] 11 [.int t0] := by
    intro  μ x1 x2 t0 hf
    rw [f_X12_shaken_L11] at hf
    refine j_istore_n3 X dX12_shaken_11 rfl (by decide) rfl ?_
    refine j_aload_n X dX12_shaken_12 rfl rfl ?_
    refine j_iconst (v := (1 : Int32)) X dX12_shaken_13 (by decide) ?_
    obtain ⟨q1, g_q1, hf⟩ := ob_t hf
    refine j_callV X [0, 1, 2, 3, 4, 5, 6, 7, 8, 9, 10, 11, 12, 13] 0 (c_X12_hasText E h g g_q1) (cut_wM_wM_c ..) rfl rfl (ws' := (wM E h g q1.1)) (cut_wM_wM_w ..) (wM_0 ..) rfl k_1041 k_1043 k_35 k_80 k_1044 (⟨rfl, rfl⟩) hdV_X12_hasText ⟨Nat.le_of_ble_eq_true rfl, Nat.le_of_ble_eq_true rfl⟩ rfl (Nat.le_of_ble_eq_true rfl) rfl dX12_shaken_14 ?_
    refine j_if_eq (tgt := 60) X dX12_shaken_17 (by decide) (fun c_17 => ?_) (fun c_17 => ?_)
    · replace hf := (if_pos c_17).symm.trans hf
      refine j_iload_n X dX12_shaken_60 rfl rfl ?_
      refine j_iconst (v := (0 : Int32)) X dX12_shaken_61 (by decide) ?_
      refine j_bipush (v := (99 : Int32)) X dX12_shaken_62 (by decide) ?_
      obtain ⟨q2, g_q2, hf⟩ := ob_t hf
      refine j_callS X [] (c_X12_held E g_q2) rfl rfl rfl (ws' := (wM E h g q1.1)) rfl k_1075 k_1076 k_80 k_1077 (⟨rfl, rfl⟩) hdS_X12_held ⟨Nat.le_of_ble_eq_true rfl, Nat.le_of_ble_eq_true rfl⟩ rfl (Nat.le_of_ble_eq_true rfl) rfl dX12_shaken_64 ?_
      obtain rfl := Option.some.inj hf
      exact j_iret X hr hlk rfl dX12_shaken_67 hQ
    · replace hf := (if_neg c_17).symm.trans hf
      refine j_aload_n X dX12_shaken_20 rfl rfl ?_
      refine j_get (C := RX12) (T := TX12) (N := 21) X iX12 0 (wM_0 ..) rfl 10 (by decide) k_926 rfl rfl dX12_shaken_21 ?_
      refine j_bipush (v := (100 : Int32)) X dX12_shaken_24 (by decide) ?_
      refine j_iload_n X dX12_shaken_26 rfl rfl ?_
      obtain ⟨c3, hf⟩ := oi_in hf
      obtain ⟨μ4, e_μ4, hf⟩ := bd_e hf
      refine j_iast X 6 (wM_6 ..) c3 dX12_shaken_27 (ws' := (wM E h g μ4)) (by rw [e_μ4]; exact wM_s6 ..) ?_
      refine j_aload_n X dX12_shaken_28 rfl rfl ?_
      refine j_get (C := RX12) (T := TX12) (N := 21) X iX12 0 (wM_0 ..) rfl 10 (by decide) k_926 rfl rfl dX12_shaken_29 ?_
      refine j_bipush (v := (109 : Int32)) X dX12_shaken_32 (by decide) ?_
      refine j_aload_n X dX12_shaken_34 rfl rfl ?_
      refine j_iload_n X dX12_shaken_35 rfl rfl ?_
      refine j_iconst (v := (1 : Int32)) X dX12_shaken_36 (by decide) ?_
      obtain ⟨q5, g_q5, hf⟩ := ob_t hf
      refine j_callV X [0, 1, 2, 3, 4, 5, 6, 7, 8, 9, 10, 11, 12, 13] 0 (c_X12_its E h g g_q5) (cut_wM_wM_c ..) rfl rfl (ws' := (wM E h g q5.1)) (cut_wM_wM_w ..) (wM_0 ..) rfl k_1052 k_1054 k_36 k_80 k_1055 (⟨rfl, rfl⟩) hdV_X12_its ⟨Nat.le_of_ble_eq_true rfl, Nat.le_of_ble_eq_true rfl⟩ rfl (Nat.le_of_ble_eq_true rfl) rfl dX12_shaken_37 ?_
      obtain ⟨c6, hf⟩ := oi_in hf
      obtain ⟨μ7, e_μ7, hf⟩ := bd_e hf
      refine j_iast X 6 (wM_6 ..) c6 dX12_shaken_40 (ws' := (wM E h g μ7)) (by rw [e_μ7]; exact wM_s6 ..) ?_
      refine j_aload_n X dX12_shaken_41 rfl rfl ?_
      refine j_get (C := RX12) (T := TX12) (N := 21) X iX12 0 (wM_0 ..) rfl 10 (by decide) k_926 rfl rfl dX12_shaken_42 ?_
      refine j_bipush (v := (112 : Int32)) X dX12_shaken_45 (by decide) ?_
      refine j_aload_n X dX12_shaken_47 rfl rfl ?_
      refine j_iload_n X dX12_shaken_48 rfl rfl ?_
      refine j_iconst (v := (3 : Int32)) X dX12_shaken_49 (by decide) ?_
      obtain ⟨q8, g_q8, hf⟩ := ob_t hf
      refine j_callV X [0, 1, 2, 3, 4, 5, 6, 7, 8, 9, 10, 11, 12, 13] 0 (c_X12_its E h g g_q8) (cut_wM_wM_c ..) rfl rfl (ws' := (wM E h g q8.1)) (cut_wM_wM_w ..) (wM_0 ..) rfl k_1052 k_1054 k_36 k_80 k_1055 (⟨rfl, rfl⟩) hdV_X12_its ⟨Nat.le_of_ble_eq_true rfl, Nat.le_of_ble_eq_true rfl⟩ rfl (Nat.le_of_ble_eq_true rfl) rfl dX12_shaken_50 ?_
      obtain ⟨c9, hf⟩ := oi_in hf
      obtain ⟨μ10, e_μ10, hf⟩ := bd_e hf
      refine j_iast X 6 (wM_6 ..) c9 dX12_shaken_53 (ws' := (wM E h g μ10)) (by rw [e_μ10]; exact wM_s6 ..) ?_
      refine j_aload_n X dX12_shaken_54 rfl rfl ?_
      refine j_iconst (v := (1 : Int32)) X dX12_shaken_55 (by decide) ?_
      obtain ⟨q11, g_q11, hf⟩ := ob_t hf
      refine j_callV X [0, 1, 2, 3, 4, 5, 6, 7, 8, 9, 10, 11, 12, 13] 0 (c_X12_worked E h g g_q11) (cut_wM_wM_c ..) rfl rfl (ws' := (wM E h g q11.1)) (cut_wM_wM_w ..) (wM_0 ..) rfl k_1068 k_1070 k_39 k_80 k_1071 (⟨rfl, rfl⟩) hdV_X12_worked ⟨Nat.le_of_ble_eq_true rfl, Nat.le_of_ble_eq_true rfl⟩ rfl (Nat.le_of_ble_eq_true rfl) rfl dX12_shaken_56 ?_
      refine j_istore_n3 X dX12_shaken_59 rfl (by decide) rfl ?_
      refine j_iload_n X dX12_shaken_60 rfl rfl ?_
      refine j_iconst (v := (0 : Int32)) X dX12_shaken_61 (by decide) ?_
      refine j_bipush (v := (99 : Int32)) X dX12_shaken_62 (by decide) ?_
      obtain ⟨q12, g_q12, hf⟩ := ob_t hf
      refine j_callS X [] (c_X12_held E g_q12) rfl rfl rfl (ws' := (wM E h g q11.1)) rfl k_1075 k_1076 k_80 k_1077 (⟨rfl, rfl⟩) hdS_X12_held ⟨Nat.le_of_ble_eq_true rfl, Nat.le_of_ble_eq_true rfl⟩ rfl (Nat.le_of_ble_eq_true rfl) rfl dX12_shaken_64 ?_
      obtain rfl := Option.some.inj hf
      exact j_iret X hr hlk rfl dX12_shaken_67 hQ
  rw [f_X12_shaken] at hf
  refine j_iload_n X dX12_shaken_0 rfl rfl ?_
  refine j_iconst (v := (1 : Int32)) X dX12_shaken_1 (by decide) ?_
  refine j_icmp_ne (tgt := 10) X dX12_shaken_2 (by decide) (fun c_2 => ?_) (fun c_2 => ?_)
  · replace hf := (if_neg c_2).symm.trans hf
    refine j_iconst (v := (0 : Int32)) X dX12_shaken_10 (by decide) ?_
    refine j_keep [true, true, true, false] rfl ?_
    exact lab11 _ _ _ _ hf
  · replace hf := (if_pos c_2).symm.trans hf
    refine j_bipush (v := (8 : Int32)) X dX12_shaken_5 (by decide) ?_
    refine j_goto (tgt := 11) X dX12_shaken_7 (by decide) ?_
    refine j_keep [true, true, true, false] rfl ?_
    exact lab11 _ _ _ _ hf
def f_X12_loses (μ : Mem) (x1 : Int32) (x2 : Int32) : Option Mem := (f_X12_its μ x1 (3 : Int32)).bind fun q1 => ((f_X12_held (q1.2 - x2) (0 : Int32) (999 : Int32)).bind fun q2 => ((f_X12_lays1 q1.1 x1 (3 : Int32) q2).bind fun q3 => (some q3)))
set_option maxHeartbeats 4000000 in
set_option maxRecDepth 20000 in
theorem c_X12_loses (E : Ev) (h : Nat → Nat) (g : Nat → Option Nat) {μ : Mem} {x1 : Int32} {x2 : Int32} {r : Mem} (hf : f_X12_loses μ x1 x2 = some r) : Ct E yX12_loses cX12_loses 3 none (rmOf 1 23) (wM E h g μ) (wM E h g r) [.ref (h 0), .int x1, .int x2] none := by
  refine ct_start RX12 0 (by decide) rfl (Nat.le_of_ble_eq_true rfl) ?_
  intro p l e s m args below meth c A Q X hr hlk hQ
  rw [f_X12_loses] at hf
  refine j_aload_n X dX12_loses_0 rfl rfl ?_
  refine j_iload_n X dX12_loses_1 rfl rfl ?_
  refine j_iconst (v := (3 : Int32)) X dX12_loses_2 (by decide) ?_
  refine j_aload_n X dX12_loses_3 rfl rfl ?_
  refine j_iload_n X dX12_loses_4 rfl rfl ?_
  refine j_iconst (v := (3 : Int32)) X dX12_loses_5 (by decide) ?_
  obtain ⟨q1, g_q1, hf⟩ := ob_t hf
  refine j_callV X [0, 1, 2, 3, 4, 5, 6, 7, 8, 9, 10, 11, 12, 13] 0 (c_X12_its E h g g_q1) (cut_wM_wM_c ..) rfl rfl (ws' := (wM E h g q1.1)) (cut_wM_wM_w ..) (wM_0 ..) rfl k_1052 k_1054 k_36 k_80 k_1055 (⟨rfl, rfl⟩) hdV_X12_its ⟨Nat.le_of_ble_eq_true rfl, Nat.le_of_ble_eq_true rfl⟩ rfl (Nat.le_of_ble_eq_true rfl) rfl dX12_loses_6 ?_
  refine j_iload_n X dX12_loses_9 rfl rfl ?_
  refine j_isub X dX12_loses_10 ?_
  refine j_iconst (v := (0 : Int32)) X dX12_loses_11 (by decide) ?_
  refine j_sipush (v := (999 : Int32)) X dX12_loses_12 (by decide) ?_
  obtain ⟨q2, g_q2, hf⟩ := ob_t hf
  refine j_callS X [] (c_X12_held E g_q2) rfl rfl rfl (ws' := (wM E h g q1.1)) rfl k_1075 k_1076 k_80 k_1077 (⟨rfl, rfl⟩) hdS_X12_held ⟨Nat.le_of_ble_eq_true rfl, Nat.le_of_ble_eq_true rfl⟩ rfl (Nat.le_of_ble_eq_true rfl) rfl dX12_loses_15 ?_
  obtain ⟨q3, g_q3, hf⟩ := ob_t hf
  refine j_callV X [0, 1, 2, 3, 4, 5, 6, 7, 8, 9, 10, 11, 12, 13] 0 (c_X12_lays1 E h g g_q3) (cut_wM_wM_c ..) rfl rfl (ws' := (wM E h g q3)) (cut_wM_wM_w ..) (wM_0 ..) rfl k_912 k_914 k_23 k_80 k_915 (⟨rfl, rfl⟩) hdV_X12_lays1 ⟨Nat.le_of_ble_eq_true rfl, Nat.le_of_ble_eq_true rfl⟩ rfl (Nat.le_of_ble_eq_true rfl) rfl dX12_loses_18 ?_
  obtain rfl := Option.some.inj hf
  exact j_vret X hr hlk dX12_loses_21 hQ
def f_X12_stirs_L14 : Nat → Mem → Int32 → Int32 → Option Mem
  | 0, _, _, _ => none
  | n + 1, μ, x1, x2 => (if (9 : Int32) ≤ x2 then some μ else (f_X12_stands μ x2).bind fun q3 => ((if q3.2 = 0 then (f_X12_stirs_L14 n) q3.1 x1 (x2 + (1 : Int32)) else (f_X12_its q3.1 x2 (2 : Int32)).bind fun q4 => ((f_X12_its q4.1 x1 (2 : Int32)).bind fun q5 => (bd (q4.2 - q5.2) fun y6 => ((if 0 ≤ y6 then (f_X12_shaken q5.1 x2 y6).bind fun q7 => ((f_X12_loses q7.1 x2 q7.2).bind fun q8 => ((f_X12_stirs_L14 n) q8 x1 (x2 + (1 : Int32)))) else (f_X12_shaken q5.1 x2 (-y6)).bind fun q9 => ((f_X12_loses q9.1 x2 q9.2).bind fun q10 => ((f_X12_stirs_L14 n) q10 x1 (x2 + (1 : Int32)))))))))))
def f_X12_stirs (μ : Mem) (x1 : Int32) : Option Mem := (if inb (0 : Int32) 387 = true then (f_X12_lays1 μ x1 (4 : Int32) (μ 1 (0 : Int32).toNatClampNeg)).bind fun q2 => (f_X12_stirs_L14 fuel0 q2 x1 (0 : Int32)) else none)
set_option maxHeartbeats 4000000 in
set_option maxRecDepth 20000 in
theorem c_X12_stirs (E : Ev) (h : Nat → Nat) (g : Nat → Option Nat) {μ : Mem} {x1 : Int32} {r : Mem} (hf : f_X12_stirs μ x1 = some r) : Ct E yX12_stirs cX12_stirs 4 none (rmOf 3 71) (wM E h g μ) (wM E h g r) [.ref (h 0), .int x1] none := by
  refine ct_start RX12 2 (by decide) rfl (Nat.le_of_ble_eq_true rfl) ?_
  intro p l e s m args below meth c A Q X hr hlk hQ
  have lab14 : ∀ (n : Nat) (μ : Mem) (x1 : Int32) (x2 : Int32), f_X12_stirs_L14 n μ x1 x2 = some r → J p l e (rmOf 3 71) s m args below meth c E A 4 Q (wM E h g μ) [some (.ref (h 0)), some (.int x1), some (.int x2), none] 14 [] := by
    intro n
    induction n with
    | zero => intro μ x1 x2 hf; cases (show none = some r from hf)
    | succ n ih =>
      intro μ x1 x2 hf
      rw [f_X12_stirs_L14] at hf
      refine j_iload_n X dX12_stirs_14 rfl rfl ?_
      refine j_bipush (v := (9 : Int32)) X dX12_stirs_15 (by decide) ?_
      refine j_icmp_ge (tgt := 68) X dX12_stirs_17 (by decide) (fun c_17 => ?_) (fun c_17 => ?_)
      · replace hf := (if_pos c_17).symm.trans hf
        obtain rfl := Option.some.inj hf
        exact j_vret X hr hlk dX12_stirs_68 hQ
      · replace hf := (if_neg c_17).symm.trans hf
        refine j_aload_n X dX12_stirs_20 rfl rfl ?_
        refine j_iload_n X dX12_stirs_21 rfl rfl ?_
        obtain ⟨q3, g_q3, hf⟩ := ob_t hf
        refine j_callV X [0, 1, 2, 3, 4, 5, 6, 7, 8, 9, 10, 11, 12, 13] 0 (c_X12_stands E h g g_q3) (cut_wM_wM_c ..) rfl rfl (ws' := (wM E h g q3.1)) (cut_wM_wM_w ..) (wM_0 ..) rfl k_1093 k_1095 k_41 k_80 k_1096 (⟨rfl, rfl⟩) hdV_X12_stands ⟨Nat.le_of_ble_eq_true rfl, Nat.le_of_ble_eq_true rfl⟩ rfl (Nat.le_of_ble_eq_true rfl) rfl dX12_stirs_22 ?_
        refine j_if_eq (tgt := 62) X dX12_stirs_25 (by decide) (fun c_25 => ?_) (fun c_25 => ?_)
        · replace hf := (if_pos c_25).symm.trans hf
          refine j_iinc2 (k := (1 : Int32)) X dX12_stirs_62 (by decide) (by decide) rfl ?_
          refine j_goto (tgt := 14) X dX12_stirs_65 (by decide) ?_
          refine j_keep [true, true, true, false] rfl ?_
          exact ih _ _ _ hf
        · replace hf := (if_neg c_25).symm.trans hf
          refine j_aload_n X dX12_stirs_28 rfl rfl ?_
          refine j_iload_n X dX12_stirs_29 rfl rfl ?_
          refine j_iconst (v := (2 : Int32)) X dX12_stirs_30 (by decide) ?_
          obtain ⟨q4, g_q4, hf⟩ := ob_t hf
          refine j_callV X [0, 1, 2, 3, 4, 5, 6, 7, 8, 9, 10, 11, 12, 13] 0 (c_X12_its E h g g_q4) (cut_wM_wM_c ..) rfl rfl (ws' := (wM E h g q4.1)) (cut_wM_wM_w ..) (wM_0 ..) rfl k_1052 k_1054 k_36 k_80 k_1055 (⟨rfl, rfl⟩) hdV_X12_its ⟨Nat.le_of_ble_eq_true rfl, Nat.le_of_ble_eq_true rfl⟩ rfl (Nat.le_of_ble_eq_true rfl) rfl dX12_stirs_31 ?_
          refine j_aload_n X dX12_stirs_34 rfl rfl ?_
          refine j_iload_n X dX12_stirs_35 rfl rfl ?_
          refine j_iconst (v := (2 : Int32)) X dX12_stirs_36 (by decide) ?_
          obtain ⟨q5, g_q5, hf⟩ := ob_t hf
          refine j_callV X [0, 1, 2, 3, 4, 5, 6, 7, 8, 9, 10, 11, 12, 13] 0 (c_X12_its E h g g_q5) (cut_wM_wM_c ..) rfl rfl (ws' := (wM E h g q5.1)) (cut_wM_wM_w ..) (wM_0 ..) rfl k_1052 k_1054 k_36 k_80 k_1055 (⟨rfl, rfl⟩) hdV_X12_its ⟨Nat.le_of_ble_eq_true rfl, Nat.le_of_ble_eq_true rfl⟩ rfl (Nat.le_of_ble_eq_true rfl) rfl dX12_stirs_37 ?_
          refine j_isub X dX12_stirs_40 ?_
          obtain ⟨y6, e_y6, hf⟩ := bd_e hf
          refine j_top e_y6 ?_
          refine j_istore_n3 X dX12_stirs_41 rfl (by decide) rfl ?_
          refine j_aload_n X dX12_stirs_42 rfl rfl ?_
          refine j_iload_n X dX12_stirs_43 rfl rfl ?_
          refine j_aload_n X dX12_stirs_44 rfl rfl ?_
          refine j_iload_n X dX12_stirs_45 rfl rfl ?_
          refine j_iload_n X dX12_stirs_46 rfl rfl ?_
          refine j_if_ge (tgt := 55) X dX12_stirs_47 (by decide) (fun c_47 => ?_) (fun c_47 => ?_)
          · replace hf := (if_pos c_47).symm.trans hf
            refine j_iload_n X dX12_stirs_55 rfl rfl ?_
            obtain ⟨q7, g_q7, hf⟩ := ob_t hf
            refine j_callV X [0, 1, 2, 3, 4, 5, 6, 7, 8, 9, 10, 11, 12, 13] 0 (c_X12_shaken E h g g_q7) (cut_wM_wM_c ..) rfl rfl (ws' := (wM E h g q7.1)) (cut_wM_wM_w ..) (wM_0 ..) rfl k_1105 k_1107 k_44 k_80 k_1108 (⟨rfl, rfl⟩) hdV_X12_shaken ⟨Nat.le_of_ble_eq_true rfl, Nat.le_of_ble_eq_true rfl⟩ rfl (Nat.le_of_ble_eq_true rfl) rfl dX12_stirs_56 ?_
            obtain ⟨q8, g_q8, hf⟩ := ob_t hf
            refine j_callV X [0, 1, 2, 3, 4, 5, 6, 7, 8, 9, 10, 11, 12, 13] 0 (c_X12_loses E h g g_q8) (cut_wM_wM_c ..) rfl rfl (ws' := (wM E h g q8)) (cut_wM_wM_w ..) (wM_0 ..) rfl k_1109 k_1111 k_45 k_80 k_1112 (⟨rfl, rfl⟩) hdV_X12_loses ⟨Nat.le_of_ble_eq_true rfl, Nat.le_of_ble_eq_true rfl⟩ rfl (Nat.le_of_ble_eq_true rfl) rfl dX12_stirs_59 ?_
            refine j_iinc2 (k := (1 : Int32)) X dX12_stirs_62 (by decide) (by decide) rfl ?_
            refine j_goto (tgt := 14) X dX12_stirs_65 (by decide) ?_
            refine j_keep [true, true, true, false] rfl ?_
            exact ih _ _ _ hf
          · replace hf := (if_neg c_47).symm.trans hf
            refine j_iload_n X dX12_stirs_50 rfl rfl ?_
            refine j_ineg X dX12_stirs_51 ?_
            refine j_goto (tgt := 56) X dX12_stirs_52 (by decide) ?_
            obtain ⟨q9, g_q9, hf⟩ := ob_t hf
            refine j_callV X [0, 1, 2, 3, 4, 5, 6, 7, 8, 9, 10, 11, 12, 13] 0 (c_X12_shaken E h g g_q9) (cut_wM_wM_c ..) rfl rfl (ws' := (wM E h g q9.1)) (cut_wM_wM_w ..) (wM_0 ..) rfl k_1105 k_1107 k_44 k_80 k_1108 (⟨rfl, rfl⟩) hdV_X12_shaken ⟨Nat.le_of_ble_eq_true rfl, Nat.le_of_ble_eq_true rfl⟩ rfl (Nat.le_of_ble_eq_true rfl) rfl dX12_stirs_56 ?_
            obtain ⟨q10, g_q10, hf⟩ := ob_t hf
            refine j_callV X [0, 1, 2, 3, 4, 5, 6, 7, 8, 9, 10, 11, 12, 13] 0 (c_X12_loses E h g g_q10) (cut_wM_wM_c ..) rfl rfl (ws' := (wM E h g q10)) (cut_wM_wM_w ..) (wM_0 ..) rfl k_1109 k_1111 k_45 k_80 k_1112 (⟨rfl, rfl⟩) hdV_X12_loses ⟨Nat.le_of_ble_eq_true rfl, Nat.le_of_ble_eq_true rfl⟩ rfl (Nat.le_of_ble_eq_true rfl) rfl dX12_stirs_59 ?_
            refine j_iinc2 (k := (1 : Int32)) X dX12_stirs_62 (by decide) (by decide) rfl ?_
            refine j_goto (tgt := 14) X dX12_stirs_65 (by decide) ?_
            refine j_keep [true, true, true, false] rfl ?_
            exact ih _ _ _ hf
  rw [f_X12_stirs] at hf
  refine j_aload_n X dX12_stirs_0 rfl rfl ?_
  refine j_iload_n X dX12_stirs_1 rfl rfl ?_
  refine j_iconst (v := (4 : Int32)) X dX12_stirs_2 (by decide) ?_
  refine j_aload_n X dX12_stirs_3 rfl rfl ?_
  refine j_get (C := RX12) (T := TX12) (N := 21) X iX12 0 (wM_0 ..) rfl 0 (by decide) k_916 rfl rfl dX12_stirs_4 ?_
  refine j_iconst (v := (0 : Int32)) X dX12_stirs_7 (by decide) ?_
  obtain ⟨c1, hf⟩ := oi_in hf
  refine j_iald X 1 (wM_1 ..) c1 dX12_stirs_8 ?_
  obtain ⟨q2, g_q2, hf⟩ := ob_t hf
  refine j_callV X [0, 1, 2, 3, 4, 5, 6, 7, 8, 9, 10, 11, 12, 13] 0 (c_X12_lays1 E h g g_q2) (cut_wM_wM_c ..) rfl rfl (ws' := (wM E h g q2)) (cut_wM_wM_w ..) (wM_0 ..) rfl k_912 k_914 k_23 k_80 k_915 (⟨rfl, rfl⟩) hdV_X12_lays1 ⟨Nat.le_of_ble_eq_true rfl, Nat.le_of_ble_eq_true rfl⟩ rfl (Nat.le_of_ble_eq_true rfl) rfl dX12_stirs_9 ?_
  refine j_iconst (v := (0 : Int32)) X dX12_stirs_12 (by decide) ?_
  refine j_istore_n2 X dX12_stirs_13 rfl (by decide) rfl ?_
  refine j_keep [true, true, true, false] rfl ?_
  exact lab14 _ _ _ _ hf
def f_X12_settle_L4 : Nat → Mem → Int32 → Int32 → Option (Mem × Int32)
  | 0, _, _, _ => none
  | n + 1, μ, x1, x2 => (if (9 : Int32) ≤ x2 then some (μ, x1) else (f_X12_stands μ x2).bind fun q1 => ((if q1.2 = 0 then (f_X12_settle_L4 n) q1.1 x1 (x2 + (1 : Int32)) else (f_X12_its q1.1 x2 (3 : Int32)).bind fun q2 => ((if q2.2 = 0 then (f_X12_stirs q2.1 x2).bind fun q3 => ((f_X12_settle_L4 n) q3 (x1 + (1 : Int32)) (0 : Int32)) else (f_X12_settle_L4 n) q2.1 x1 (x2 + (1 : Int32)))))))
def f_X12_settle (μ : Mem) : Option (Mem × Int32) := f_X12_settle_L4 fuel0 μ (0 : Int32) (0 : Int32)
set_option maxHeartbeats 4000000 in
set_option maxRecDepth 20000 in
theorem c_X12_settle (E : Ev) (h : Nat → Nat) (g : Nat → Option Nat) {μ : Mem} {r : (Mem × Int32)} (hf : f_X12_settle μ = some r) : Ct E yX12_settle cX12_settle 3 (some .int) (rmOf 4 94) (wM E h g μ) (wM E h g r.1) [.ref (h 0)] (some (.int r.2)) := by
  refine ct_start RX12 2 (by decide) rfl (Nat.le_of_ble_eq_true rfl) ?_
  intro p l e s m args below meth c A Q X hr hlk hQ
  have lab4 : ∀ (n : Nat) (μ : Mem) (x1 : Int32) (x2 : Int32), f_X12_settle_L4 n μ x1 x2 = some r → J p l e (rmOf 4 94) s m args below meth c E A 3 Q (wM E h g μ) [some (.ref (h 0)), some (.int x1), some (.int x2)] 4 [] := by
    intro n
    induction n with
    | zero => intro μ x1 x2 hf; cases (show none = some r from hf)
    | succ n ih =>
      intro μ x1 x2 hf
      rw [f_X12_settle_L4] at hf
      refine j_iload_n X dX12_settle_4 rfl rfl ?_
      refine j_bipush (v := (9 : Int32)) X dX12_settle_5 (by decide) ?_
      refine j_icmp_ge (tgt := 46) X dX12_settle_7 (by decide) (fun c_7 => ?_) (fun c_7 => ?_)
      · replace hf := (if_pos c_7).symm.trans hf
        refine j_iload_n X dX12_settle_46 rfl rfl ?_
        obtain rfl := Option.some.inj hf
        exact j_iret X hr hlk rfl dX12_settle_47 hQ
      · replace hf := (if_neg c_7).symm.trans hf
        refine j_aload_n X dX12_settle_10 rfl rfl ?_
        refine j_iload_n X dX12_settle_11 rfl rfl ?_
        obtain ⟨q1, g_q1, hf⟩ := ob_t hf
        refine j_callV X [0, 1, 2, 3, 4, 5, 6, 7, 8, 9, 10, 11, 12, 13] 0 (c_X12_stands E h g g_q1) (cut_wM_wM_c ..) rfl rfl (ws' := (wM E h g q1.1)) (cut_wM_wM_w ..) (wM_0 ..) rfl k_1093 k_1095 k_41 k_80 k_1096 (⟨rfl, rfl⟩) hdV_X12_stands ⟨Nat.le_of_ble_eq_true rfl, Nat.le_of_ble_eq_true rfl⟩ rfl (Nat.le_of_ble_eq_true rfl) rfl dX12_settle_12 ?_
        refine j_if_eq (tgt := 40) X dX12_settle_15 (by decide) (fun c_15 => ?_) (fun c_15 => ?_)
        · replace hf := (if_pos c_15).symm.trans hf
          refine j_iinc2 (k := (1 : Int32)) X dX12_settle_40 (by decide) (by decide) rfl ?_
          refine j_goto (tgt := 4) X dX12_settle_43 (by decide) ?_
          refine j_keep [true, true, true] rfl ?_
          exact ih _ _ _ hf
        · replace hf := (if_neg c_15).symm.trans hf
          refine j_aload_n X dX12_settle_18 rfl rfl ?_
          refine j_iload_n X dX12_settle_19 rfl rfl ?_
          refine j_iconst (v := (3 : Int32)) X dX12_settle_20 (by decide) ?_
          obtain ⟨q2, g_q2, hf⟩ := ob_t hf
          refine j_callV X [0, 1, 2, 3, 4, 5, 6, 7, 8, 9, 10, 11, 12, 13] 0 (c_X12_its E h g g_q2) (cut_wM_wM_c ..) rfl rfl (ws' := (wM E h g q2.1)) (cut_wM_wM_w ..) (wM_0 ..) rfl k_1052 k_1054 k_36 k_80 k_1055 (⟨rfl, rfl⟩) hdV_X12_its ⟨Nat.le_of_ble_eq_true rfl, Nat.le_of_ble_eq_true rfl⟩ rfl (Nat.le_of_ble_eq_true rfl) rfl dX12_settle_21 ?_
          refine j_if_ne (tgt := 40) X dX12_settle_24 (by decide) (fun c_24 => ?_) (fun c_24 => ?_)
          · replace hf := (if_neg c_24).symm.trans hf
            refine j_iinc2 (k := (1 : Int32)) X dX12_settle_40 (by decide) (by decide) rfl ?_
            refine j_goto (tgt := 4) X dX12_settle_43 (by decide) ?_
            refine j_keep [true, true, true] rfl ?_
            exact ih _ _ _ hf
          · replace hf := (if_pos c_24).symm.trans hf
            refine j_aload_n X dX12_settle_27 rfl rfl ?_
            refine j_iload_n X dX12_settle_28 rfl rfl ?_
            obtain ⟨q3, g_q3, hf⟩ := ob_t hf
            refine j_callV X [0, 1, 2, 3, 4, 5, 6, 7, 8, 9, 10, 11, 12, 13] 0 (c_X12_stirs E h g g_q3) (cut_wM_wM_c ..) rfl rfl (ws' := (wM E h g q3)) (cut_wM_wM_w ..) (wM_0 ..) rfl k_1101 k_1103 k_43 k_80 k_1104 (⟨rfl, rfl⟩) hdV_X12_stirs ⟨Nat.le_of_ble_eq_true rfl, Nat.le_of_ble_eq_true rfl⟩ rfl (Nat.le_of_ble_eq_true rfl) rfl dX12_settle_29 ?_
            refine j_iinc1 (k := (1 : Int32)) X dX12_settle_32 (by decide) (by decide) rfl ?_
            refine j_iconst (v := (0 : Int32)) X dX12_settle_35 (by decide) ?_
            refine j_istore_n2 X dX12_settle_36 rfl (by decide) rfl ?_
            refine j_goto (tgt := 4) X dX12_settle_37 (by decide) ?_
            refine j_keep [true, true, true] rfl ?_
            exact ih _ _ _ hf
  rw [f_X12_settle] at hf
  refine j_iconst (v := (0 : Int32)) X dX12_settle_0 (by decide) ?_
  refine j_istore_n1 X dX12_settle_1 rfl (by decide) rfl ?_
  refine j_iconst (v := (0 : Int32)) X dX12_settle_2 (by decide) ?_
  refine j_istore_n2 X dX12_settle_3 rfl (by decide) rfl ?_
  refine j_keep [true, true, true] rfl ?_
  exact lab4 _ _ _ _ hf
def f_X12_minute_L12 : Nat → Mem → Int32 → Option (Mem × Int32)
  | 0, _, _ => none
  | n + 1, μ, x1 => (if (9 : Int32) ≤ x1 then (f_X12_settle μ).bind fun q4 => (some (q4.1, q4.2)) else (f_X12_stands μ x1).bind fun q5 => ((if q5.2 = 0 then (f_X12_minute_L12 n) q5.1 (x1 + (1 : Int32)) else (f_X12_spends q5.1 x1).bind fun q6 => ((f_X12_loses q6.1 x1 q6.2).bind fun q7 => ((f_X12_minute_L12 n) q7 (x1 + (1 : Int32)))))))
def f_X12_minute (μ : Mem) : Option (Mem × Int32) := (if inb (0 : Int32) 387 = true then (if inb (0 : Int32) 387 = true then bd (upA μ 1 (upd (μ 1) (0 : Int32).toNatClampNeg ((μ 1 (0 : Int32).toNatClampNeg) + (1 : Int32)))) fun μ3 => (f_X12_minute_L12 fuel0 μ3 (0 : Int32)) else none) else none)
set_option maxHeartbeats 4000000 in
set_option maxRecDepth 20000 in
theorem c_X12_minute (E : Ev) (h : Nat → Nat) (g : Nat → Option Nat) {μ : Mem} {r : (Mem × Int32)} (hf : f_X12_minute μ = some r) : Ct E yX12_minute cX12_minute 2 (some .int) (rmOf 5 116) (wM E h g μ) (wM E h g r.1) [.ref (h 0)] (some (.int r.2)) := by
  refine ct_start RX12 1 (by decide) rfl (Nat.le_of_ble_eq_true rfl) ?_
  intro p l e s m args below meth c A Q X hr hlk hQ
  have lab12 : ∀ (n : Nat) (μ : Mem) (x1 : Int32), f_X12_minute_L12 n μ x1 = some r → J p l e (rmOf 5 116) s m args below meth c E A 2 Q (wM E h g μ) [some (.ref (h 0)), some (.int x1)] 12 [] := by
    intro n
    induction n with
    | zero => intro μ x1 hf; cases (show none = some r from hf)
    | succ n ih =>
      intro μ x1 hf
      rw [f_X12_minute_L12] at hf
      refine j_iload_n X dX12_minute_12 rfl rfl ?_
      refine j_bipush (v := (9 : Int32)) X dX12_minute_13 (by decide) ?_
      refine j_icmp_ge (tgt := 42) X dX12_minute_15 (by decide) (fun c_15 => ?_) (fun c_15 => ?_)
      · replace hf := (if_pos c_15).symm.trans hf
        refine j_aload_n X dX12_minute_42 rfl rfl ?_
        obtain ⟨q4, g_q4, hf⟩ := ob_t hf
        refine j_callV X [0, 1, 2, 3, 4, 5, 6, 7, 8, 9, 10, 11, 12, 13] 0 (c_X12_settle E h g g_q4) (cut_wM_wM_c ..) rfl rfl (ws' := (wM E h g q4.1)) (cut_wM_wM_w ..) (wM_0 ..) rfl k_1097 k_1099 k_42 k_80 k_1100 (⟨rfl, rfl⟩) hdV_X12_settle ⟨Nat.le_of_ble_eq_true rfl, Nat.le_of_ble_eq_true rfl⟩ rfl (Nat.le_of_ble_eq_true rfl) rfl dX12_minute_43 ?_
        obtain rfl := Option.some.inj hf
        exact j_iret X hr hlk rfl dX12_minute_46 hQ
      · replace hf := (if_neg c_15).symm.trans hf
        refine j_aload_n X dX12_minute_18 rfl rfl ?_
        refine j_iload_n X dX12_minute_19 rfl rfl ?_
        obtain ⟨q5, g_q5, hf⟩ := ob_t hf
        refine j_callV X [0, 1, 2, 3, 4, 5, 6, 7, 8, 9, 10, 11, 12, 13] 0 (c_X12_stands E h g g_q5) (cut_wM_wM_c ..) rfl rfl (ws' := (wM E h g q5.1)) (cut_wM_wM_w ..) (wM_0 ..) rfl k_1093 k_1095 k_41 k_80 k_1096 (⟨rfl, rfl⟩) hdV_X12_stands ⟨Nat.le_of_ble_eq_true rfl, Nat.le_of_ble_eq_true rfl⟩ rfl (Nat.le_of_ble_eq_true rfl) rfl dX12_minute_20 ?_
        refine j_if_eq (tgt := 36) X dX12_minute_23 (by decide) (fun c_23 => ?_) (fun c_23 => ?_)
        · replace hf := (if_pos c_23).symm.trans hf
          refine j_iinc1 (k := (1 : Int32)) X dX12_minute_36 (by decide) (by decide) rfl ?_
          refine j_goto (tgt := 12) X dX12_minute_39 (by decide) ?_
          refine j_keep [true, true] rfl ?_
          exact ih _ _ hf
        · replace hf := (if_neg c_23).symm.trans hf
          refine j_aload_n X dX12_minute_26 rfl rfl ?_
          refine j_iload_n X dX12_minute_27 rfl rfl ?_
          refine j_aload_n X dX12_minute_28 rfl rfl ?_
          refine j_iload_n X dX12_minute_29 rfl rfl ?_
          obtain ⟨q6, g_q6, hf⟩ := ob_t hf
          refine j_callV X [0, 1, 2, 3, 4, 5, 6, 7, 8, 9, 10, 11, 12, 13] 0 (c_X12_spends E h g g_q6) (cut_wM_wM_c ..) rfl rfl (ws' := (wM E h g q6.1)) (cut_wM_wM_w ..) (wM_0 ..) rfl k_1060 k_1062 k_37 k_80 k_1063 (⟨rfl, rfl⟩) hdV_X12_spends ⟨Nat.le_of_ble_eq_true rfl, Nat.le_of_ble_eq_true rfl⟩ rfl (Nat.le_of_ble_eq_true rfl) rfl dX12_minute_30 ?_
          obtain ⟨q7, g_q7, hf⟩ := ob_t hf
          refine j_callV X [0, 1, 2, 3, 4, 5, 6, 7, 8, 9, 10, 11, 12, 13] 0 (c_X12_loses E h g g_q7) (cut_wM_wM_c ..) rfl rfl (ws' := (wM E h g q7)) (cut_wM_wM_w ..) (wM_0 ..) rfl k_1109 k_1111 k_45 k_80 k_1112 (⟨rfl, rfl⟩) hdV_X12_loses ⟨Nat.le_of_ble_eq_true rfl, Nat.le_of_ble_eq_true rfl⟩ rfl (Nat.le_of_ble_eq_true rfl) rfl dX12_minute_33 ?_
          refine j_iinc1 (k := (1 : Int32)) X dX12_minute_36 (by decide) (by decide) rfl ?_
          refine j_goto (tgt := 12) X dX12_minute_39 (by decide) ?_
          refine j_keep [true, true] rfl ?_
          exact ih _ _ hf
  rw [f_X12_minute] at hf
  refine j_aload_n X dX12_minute_0 rfl rfl ?_
  refine j_get (C := RX12) (T := TX12) (N := 21) X iX12 0 (wM_0 ..) rfl 0 (by decide) k_916 rfl rfl dX12_minute_1 ?_
  refine j_iconst (v := (0 : Int32)) X dX12_minute_4 (by decide) ?_
  refine j_dup2 X dX12_minute_5 rfl rfl ?_
  obtain ⟨c1, hf⟩ := oi_in hf
  refine j_iald X 1 (wM_1 ..) c1 dX12_minute_6 ?_
  refine j_iconst (v := (1 : Int32)) X dX12_minute_7 (by decide) ?_
  refine j_iadd X dX12_minute_8 ?_
  obtain ⟨c2, hf⟩ := oi_in hf
  obtain ⟨μ3, e_μ3, hf⟩ := bd_e hf
  refine j_iast X 1 (wM_1 ..) c2 dX12_minute_9 (ws' := (wM E h g μ3)) (by rw [e_μ3]; exact wM_s1 ..) ?_
  refine j_iconst (v := (0 : Int32)) X dX12_minute_10 (by decide) ?_
  refine j_istore_n1 X dX12_minute_11 rfl (by decide) rfl ?_
  refine j_keep [true, true] rfl ?_
  exact lab12 _ _ _ hf
def f_X12_flyAt (μ : Mem) (x1 : Int32) : Option (Mem × Int32) := (f_X12_standsAt μ x1).bind fun q1 => ((f_X12_stands q1.1 q1.2).bind fun q2 => ((if q2.2 = 0 then some (q2.1, (0 : Int32)) else (f_X12_bite q2.1 q1.2).bind fun q3 => ((f_X12_loses q3.1 q1.2 q3.2).bind fun q4 => ((f_X12_settle q4).bind fun q5 => (some (q5.1, q5.2)))))))
set_option maxHeartbeats 4000000 in
set_option maxRecDepth 20000 in
theorem c_X12_flyAt (E : Ev) (h : Nat → Nat) (g : Nat → Option Nat) {μ : Mem} {x1 : Int32} {r : (Mem × Int32)} (hf : f_X12_flyAt μ x1 = some r) : Ct E yX12_flyAt cX12_flyAt 3 (some .int) (rmOf 5 116) (wM E h g μ) (wM E h g r.1) [.ref (h 0), .int x1] (some (.int r.2)) := by
  refine ct_start RX12 1 (by decide) rfl (Nat.le_of_ble_eq_true rfl) ?_
  intro p l e s m args below meth c A Q X hr hlk hQ
  rw [f_X12_flyAt] at hf
  refine j_aload_n X dX12_flyAt_0 rfl rfl ?_
  refine j_iload_n X dX12_flyAt_1 rfl rfl ?_
  obtain ⟨q1, g_q1, hf⟩ := ob_t hf
  refine j_callV X [0, 1, 2, 3, 4, 5, 6, 7, 8, 9, 10, 11, 12, 13] 0 (c_X12_standsAt E h g g_q1) (cut_wM_wM_c ..) rfl rfl (ws' := (wM E h g q1.1)) (cut_wM_wM_w ..) (wM_0 ..) rfl k_1137 k_1139 k_48 k_80 k_1140 (⟨rfl, rfl⟩) hdV_X12_standsAt ⟨Nat.le_of_ble_eq_true rfl, Nat.le_of_ble_eq_true rfl⟩ rfl (Nat.le_of_ble_eq_true rfl) rfl dX12_flyAt_2 ?_
  refine j_istore_n2 X dX12_flyAt_5 rfl (by decide) rfl ?_
  refine j_aload_n X dX12_flyAt_6 rfl rfl ?_
  refine j_iload_n X dX12_flyAt_7 rfl rfl ?_
  obtain ⟨q2, g_q2, hf⟩ := ob_t hf
  refine j_callV X [0, 1, 2, 3, 4, 5, 6, 7, 8, 9, 10, 11, 12, 13] 0 (c_X12_stands E h g g_q2) (cut_wM_wM_c ..) rfl rfl (ws' := (wM E h g q2.1)) (cut_wM_wM_w ..) (wM_0 ..) rfl k_1093 k_1095 k_41 k_80 k_1096 (⟨rfl, rfl⟩) hdV_X12_stands ⟨Nat.le_of_ble_eq_true rfl, Nat.le_of_ble_eq_true rfl⟩ rfl (Nat.le_of_ble_eq_true rfl) rfl dX12_flyAt_8 ?_
  refine j_if_ne (tgt := 16) X dX12_flyAt_11 (by decide) (fun c_11 => ?_) (fun c_11 => ?_)
  · replace hf := (if_neg c_11).symm.trans hf
    refine j_aload_n X dX12_flyAt_16 rfl rfl ?_
    refine j_iload_n X dX12_flyAt_17 rfl rfl ?_
    refine j_aload_n X dX12_flyAt_18 rfl rfl ?_
    refine j_iload_n X dX12_flyAt_19 rfl rfl ?_
    obtain ⟨q3, g_q3, hf⟩ := ob_t hf
    refine j_callV X [0, 1, 2, 3, 4, 5, 6, 7, 8, 9, 10, 11, 12, 13] 0 (c_X12_bite E h g g_q3) (cut_wM_wM_c ..) rfl rfl (ws' := (wM E h g q3.1)) (cut_wM_wM_w ..) (wM_0 ..) rfl k_1078 k_1080 k_40 k_80 k_1081 (⟨rfl, rfl⟩) hdV_X12_bite ⟨Nat.le_of_ble_eq_true rfl, Nat.le_of_ble_eq_true rfl⟩ rfl (Nat.le_of_ble_eq_true rfl) rfl dX12_flyAt_20 ?_
    obtain ⟨q4, g_q4, hf⟩ := ob_t hf
    refine j_callV X [0, 1, 2, 3, 4, 5, 6, 7, 8, 9, 10, 11, 12, 13] 0 (c_X12_loses E h g g_q4) (cut_wM_wM_c ..) rfl rfl (ws' := (wM E h g q4)) (cut_wM_wM_w ..) (wM_0 ..) rfl k_1109 k_1111 k_45 k_80 k_1112 (⟨rfl, rfl⟩) hdV_X12_loses ⟨Nat.le_of_ble_eq_true rfl, Nat.le_of_ble_eq_true rfl⟩ rfl (Nat.le_of_ble_eq_true rfl) rfl dX12_flyAt_23 ?_
    refine j_aload_n X dX12_flyAt_26 rfl rfl ?_
    obtain ⟨q5, g_q5, hf⟩ := ob_t hf
    refine j_callV X [0, 1, 2, 3, 4, 5, 6, 7, 8, 9, 10, 11, 12, 13] 0 (c_X12_settle E h g g_q5) (cut_wM_wM_c ..) rfl rfl (ws' := (wM E h g q5.1)) (cut_wM_wM_w ..) (wM_0 ..) rfl k_1097 k_1099 k_42 k_80 k_1100 (⟨rfl, rfl⟩) hdV_X12_settle ⟨Nat.le_of_ble_eq_true rfl, Nat.le_of_ble_eq_true rfl⟩ rfl (Nat.le_of_ble_eq_true rfl) rfl dX12_flyAt_27 ?_
    obtain rfl := Option.some.inj hf
    exact j_iret X hr hlk rfl dX12_flyAt_30 hQ
  · replace hf := (if_pos c_11).symm.trans hf
    refine j_iconst (v := (0 : Int32)) X dX12_flyAt_14 (by decide) ?_
    obtain rfl := Option.some.inj hf
    exact j_iret X hr hlk rfl dX12_flyAt_15 hQ
def f_X12_pokes (μ : Mem) (x1 : Int32) : Option (Mem × Int32) := (f_X12_lays1 μ x1 (3 : Int32) (0 : Int32)).bind fun q1 => ((f_X12_settle q1).bind fun q2 => (some (q2.1, q2.2)))
set_option maxHeartbeats 4000000 in
set_option maxRecDepth 20000 in
theorem c_X12_pokes (E : Ev) (h : Nat → Nat) (g : Nat → Option Nat) {μ : Mem} {x1 : Int32} {r : (Mem × Int32)} (hf : f_X12_pokes μ x1 = some r) : Ct E yX12_pokes cX12_pokes 2 (some .int) (rmOf 5 116) (wM E h g μ) (wM E h g r.1) [.ref (h 0), .int x1] (some (.int r.2)) := by
  refine ct_start RX12 0 (by decide) rfl (Nat.le_of_ble_eq_true rfl) ?_
  intro p l e s m args below meth c A Q X hr hlk hQ
  rw [f_X12_pokes] at hf
  refine j_aload_n X dX12_pokes_0 rfl rfl ?_
  refine j_iload_n X dX12_pokes_1 rfl rfl ?_
  refine j_iconst (v := (3 : Int32)) X dX12_pokes_2 (by decide) ?_
  refine j_iconst (v := (0 : Int32)) X dX12_pokes_3 (by decide) ?_
  obtain ⟨q1, g_q1, hf⟩ := ob_t hf
  refine j_callV X [0, 1, 2, 3, 4, 5, 6, 7, 8, 9, 10, 11, 12, 13] 0 (c_X12_lays1 E h g g_q1) (cut_wM_wM_c ..) rfl rfl (ws' := (wM E h g q1)) (cut_wM_wM_w ..) (wM_0 ..) rfl k_912 k_914 k_23 k_80 k_915 (⟨rfl, rfl⟩) hdV_X12_lays1 ⟨Nat.le_of_ble_eq_true rfl, Nat.le_of_ble_eq_true rfl⟩ rfl (Nat.le_of_ble_eq_true rfl) rfl dX12_pokes_4 ?_
  refine j_aload_n X dX12_pokes_7 rfl rfl ?_
  obtain ⟨q2, g_q2, hf⟩ := ob_t hf
  refine j_callV X [0, 1, 2, 3, 4, 5, 6, 7, 8, 9, 10, 11, 12, 13] 0 (c_X12_settle E h g g_q2) (cut_wM_wM_c ..) rfl rfl (ws' := (wM E h g q2.1)) (cut_wM_wM_w ..) (wM_0 ..) rfl k_1097 k_1099 k_42 k_80 k_1100 (⟨rfl, rfl⟩) hdV_X12_settle ⟨Nat.le_of_ble_eq_true rfl, Nat.le_of_ble_eq_true rfl⟩ rfl (Nat.le_of_ble_eq_true rfl) rfl dX12_pokes_8 ?_
  obtain rfl := Option.some.inj hf
  exact j_iret X hr hlk rfl dX12_pokes_11 hQ
