abbrev RT_Ml : Type := (Mem → Int32 → Int32 → Option (Mem × Int32))
def HC_X12_leansAs (f : Mem → Int32 → Int32 → Option (Mem × Int32)) (F L : Nat) : Prop := ∀ (E : Ev) (h : Nat → Nat) (g : Nat → Option Nat) (μ : Mem) (x1 : Int32) (x2 : Int32) (r : (Mem × Int32)), f μ x1 x2 = some r → Ct E yX12_leansAs cX12_leansAs 3 (some .int) (rmOf F L) (wM E h g μ) (wM E h g r.1) [.ref (h 0), .int x1, .int x2] (some (.int r.2))
def f_X12_leansAs_b (rec : RT_Ml) (μ : Mem) (x1 : Int32) (x2 : Int32) : Option (Mem × Int32) := (if x1 = (0 : Int32) then (f_X12_begins μ (11 : Int32)).bind fun q1 => ((f_X12_kindNow q1).bind fun q2 => ((f_X12_holdsAs q2.1 q2.2 x2).bind fun q3 => (some (q3.1, (q3.2 * (2 : Int32)))))) else (if x1 = (2 : Int32) then (f_X12_begins μ (30 : Int32)).bind fun q4 => ((f_X12_above (2 : Int32)).bind fun q5 => ((rec q4 q5 x2).bind fun q6 => (some (q6.1, ((0 : Int32) - q6.2))))) else (if x1 = (5 : Int32) then (f_X12_begins μ (60 : Int32)).bind fun q7 => ((f_X12_above (5 : Int32)).bind fun q8 => ((rec q7 q8 (x2 + (1 : Int32))).bind fun q9 => (some (q9.1, q9.2)))) else (if x1 = (6 : Int32) then (f_X12_begins μ (71 : Int32)).bind fun q10 => ((f_X12_above (6 : Int32)).bind fun q11 => ((rec q10 q11 x2).bind fun q12 => ((f_X12_mNow q12.1).bind fun q13 => (some (q13.1, (q12.2 + q13.2)))))) else (f_X12_above x1).bind fun q14 => ((rec μ q14 x2).bind fun q15 => (some (q15.1, q15.2)))))))
set_option maxHeartbeats 4000000 in
set_option maxRecDepth 20000 in
theorem c_X12_leansAs_b (rec : RT_Ml) (F L : Nat) (H0 : HC_X12_leansAs rec F L) (E : Ev) (h : Nat → Nat) (g : Nat → Option Nat) {μ : Mem} {x1 : Int32} {x2 : Int32} {r : (Mem × Int32)} (hf : f_X12_leansAs_b rec μ x1 x2 = some r) : Ct E yX12_leansAs cX12_leansAs 3 (some .int) (rmOf (F + 9) (L + 198)) (wM E h g μ) (wM E h g r.1) [.ref (h 0), .int x1, .int x2] (some (.int r.2)) := by
  refine ct_start RX12 0 (by decide) rfl (Nat.le_of_ble_eq_true rfl) ?_
  intro p l e s m args below meth c A Q X hr hlk hQ
  rw [f_X12_leansAs_b] at hf
  refine j_iload_n X dX12_leansAs_0 rfl rfl ?_
  by_cases n_1_0 : x1 = (0 : Int32)
  · replace hf := (if_pos n_1_0).symm.trans hf
    refine j_tsI (k := (0 : Int32)) (tgt := 44) X n_1_0 dX12_leansAs_1 (by decide) (by decide) rfl (by decide) ?_
    refine j_aload_n X dX12_leansAs_44 rfl rfl ?_
    refine j_bipush (v := (11 : Int32)) X dX12_leansAs_45 (by decide) ?_
    obtain ⟨q1, g_q1, hf⟩ := ob_t hf
    refine j_callV X [0, 1, 2, 3, 4, 5, 6, 7, 8, 9, 10, 11, 12, 13] 0 (c_X12_begins E h g g_q1) (cut_wM_wM_c ..) rfl rfl (ws' := (wM E h g q1)) (cut_wM_wM_w ..) (wM_0 ..) rfl k_1259 k_1261 k_61 k_80 k_1262 (⟨rfl, rfl⟩) hdV_X12_begins ⟨by dsimp only [rmOf]; omega, by dsimp only [rmOf]; omega⟩ rfl (Nat.le_of_ble_eq_true rfl) rfl dX12_leansAs_47 ?_
    refine j_aload_n X dX12_leansAs_50 rfl rfl ?_
    refine j_aload_n X dX12_leansAs_51 rfl rfl ?_
    obtain ⟨q2, g_q2, hf⟩ := ob_t hf
    refine j_callV X [0, 1, 2, 3, 4, 5, 6, 7, 8, 9, 10, 11, 12, 13] 0 (c_X12_kindNow E h g g_q2) (cut_wM_wM_c ..) rfl rfl (ws' := (wM E h g q2.1)) (cut_wM_wM_w ..) (wM_0 ..) rfl k_1251 k_1253 k_59 k_80 k_1254 (⟨rfl, rfl⟩) hdV_X12_kindNow ⟨by dsimp only [rmOf]; omega, by dsimp only [rmOf]; omega⟩ rfl (Nat.le_of_ble_eq_true rfl) rfl dX12_leansAs_52 ?_
    refine j_iload_n X dX12_leansAs_55 rfl rfl ?_
    obtain ⟨q3, g_q3, hf⟩ := ob_t hf
    refine j_callV X [0, 1, 2, 3, 4, 5, 6, 7, 8, 9, 10, 11, 12, 13] 0 (c_X12_holdsAs E h g g_q3) (cut_wM_wM_c ..) rfl rfl (ws' := (wM E h g q3.1)) (cut_wM_wM_w ..) (wM_0 ..) rfl k_1255 k_1257 k_60 k_80 k_1258 (⟨rfl, rfl⟩) hdV_X12_holdsAs ⟨by dsimp only [rmOf]; omega, by dsimp only [rmOf]; omega⟩ rfl (Nat.le_of_ble_eq_true rfl) rfl dX12_leansAs_56 ?_
    refine j_iconst (v := (2 : Int32)) X dX12_leansAs_59 (by decide) ?_
    refine j_imul X dX12_leansAs_60 ?_
    obtain rfl := Option.some.inj hf
    exact j_iret X hr hlk rfl dX12_leansAs_61 hQ
  · replace hf := (if_neg n_1_0).symm.trans hf
    by_cases n_1_1 : x1 = (2 : Int32)
    · replace hf := (if_pos n_1_1).symm.trans hf
      refine j_tsI (k := (2 : Int32)) (tgt := 62) X n_1_1 dX12_leansAs_1 (by decide) (by decide) rfl (by decide) ?_
      refine j_aload_n X dX12_leansAs_62 rfl rfl ?_
      refine j_bipush (v := (30 : Int32)) X dX12_leansAs_63 (by decide) ?_
      obtain ⟨q4, g_q4, hf⟩ := ob_t hf
      refine j_callV X [0, 1, 2, 3, 4, 5, 6, 7, 8, 9, 10, 11, 12, 13] 0 (c_X12_begins E h g g_q4) (cut_wM_wM_c ..) rfl rfl (ws' := (wM E h g q4)) (cut_wM_wM_w ..) (wM_0 ..) rfl k_1259 k_1261 k_61 k_80 k_1262 (⟨rfl, rfl⟩) hdV_X12_begins ⟨by dsimp only [rmOf]; omega, by dsimp only [rmOf]; omega⟩ rfl (Nat.le_of_ble_eq_true rfl) rfl dX12_leansAs_65 ?_
      refine j_iconst (v := (0 : Int32)) X dX12_leansAs_68 (by decide) ?_
      refine j_aload_n X dX12_leansAs_69 rfl rfl ?_
      refine j_iconst (v := (2 : Int32)) X dX12_leansAs_70 (by decide) ?_
      obtain ⟨q5, g_q5, hf⟩ := ob_t hf
      refine j_callS X [] (c_X12_above E g_q5) rfl rfl rfl (ws' := (wM E h g q4)) rfl k_1263 k_1264 k_80 k_1265 (⟨rfl, rfl⟩) hdS_X12_above ⟨by dsimp only [rmOf]; omega, by dsimp only [rmOf]; omega⟩ rfl (Nat.le_of_ble_eq_true rfl) rfl dX12_leansAs_71 ?_
      refine j_iload_n X dX12_leansAs_74 rfl rfl ?_
      obtain ⟨q6, g_q6, hf⟩ := ob_t hf
      refine j_callV X [0, 1, 2, 3, 4, 5, 6, 7, 8, 9, 10, 11, 12, 13] 0 (H0 E h g _ _ _ _ g_q6) (cut_wM_wM_c ..) rfl rfl (ws' := (wM E h g q6.1)) (cut_wM_wM_w ..) (wM_0 ..) rfl k_1266 k_1268 k_62 k_80 k_1269 (⟨rfl, rfl⟩) hdV_X12_leansAs ⟨by dsimp only [rmOf]; omega, by dsimp only [rmOf]; omega⟩ rfl (Nat.le_of_ble_eq_true rfl) rfl dX12_leansAs_75 ?_
      refine j_isub X dX12_leansAs_78 ?_
      obtain rfl := Option.some.inj hf
      exact j_iret X hr hlk rfl dX12_leansAs_79 hQ
    · replace hf := (if_neg n_1_1).symm.trans hf
      by_cases n_1_2 : x1 = (5 : Int32)
      · replace hf := (if_pos n_1_2).symm.trans hf
        refine j_tsI (k := (5 : Int32)) (tgt := 80) X n_1_2 dX12_leansAs_1 (by decide) (by decide) rfl (by decide) ?_
        refine j_aload_n X dX12_leansAs_80 rfl rfl ?_
        refine j_bipush (v := (60 : Int32)) X dX12_leansAs_81 (by decide) ?_
        obtain ⟨q7, g_q7, hf⟩ := ob_t hf
        refine j_callV X [0, 1, 2, 3, 4, 5, 6, 7, 8, 9, 10, 11, 12, 13] 0 (c_X12_begins E h g g_q7) (cut_wM_wM_c ..) rfl rfl (ws' := (wM E h g q7)) (cut_wM_wM_w ..) (wM_0 ..) rfl k_1259 k_1261 k_61 k_80 k_1262 (⟨rfl, rfl⟩) hdV_X12_begins ⟨by dsimp only [rmOf]; omega, by dsimp only [rmOf]; omega⟩ rfl (Nat.le_of_ble_eq_true rfl) rfl dX12_leansAs_83 ?_
        refine j_aload_n X dX12_leansAs_86 rfl rfl ?_
        refine j_iconst (v := (5 : Int32)) X dX12_leansAs_87 (by decide) ?_
        obtain ⟨q8, g_q8, hf⟩ := ob_t hf
        refine j_callS X [] (c_X12_above E g_q8) rfl rfl rfl (ws' := (wM E h g q7)) rfl k_1263 k_1264 k_80 k_1265 (⟨rfl, rfl⟩) hdS_X12_above ⟨by dsimp only [rmOf]; omega, by dsimp only [rmOf]; omega⟩ rfl (Nat.le_of_ble_eq_true rfl) rfl dX12_leansAs_88 ?_
        refine j_iload_n X dX12_leansAs_91 rfl rfl ?_
        refine j_iconst (v := (1 : Int32)) X dX12_leansAs_92 (by decide) ?_
        refine j_iadd X dX12_leansAs_93 ?_
        obtain ⟨q9, g_q9, hf⟩ := ob_t hf
        refine j_callV X [0, 1, 2, 3, 4, 5, 6, 7, 8, 9, 10, 11, 12, 13] 0 (H0 E h g _ _ _ _ g_q9) (cut_wM_wM_c ..) rfl rfl (ws' := (wM E h g q9.1)) (cut_wM_wM_w ..) (wM_0 ..) rfl k_1266 k_1268 k_62 k_80 k_1269 (⟨rfl, rfl⟩) hdV_X12_leansAs ⟨by dsimp only [rmOf]; omega, by dsimp only [rmOf]; omega⟩ rfl (Nat.le_of_ble_eq_true rfl) rfl dX12_leansAs_94 ?_
        obtain rfl := Option.some.inj hf
        exact j_iret X hr hlk rfl dX12_leansAs_97 hQ
      · replace hf := (if_neg n_1_2).symm.trans hf
        by_cases n_1_3 : x1 = (6 : Int32)
        · replace hf := (if_pos n_1_3).symm.trans hf
          refine j_tsI (k := (6 : Int32)) (tgt := 98) X n_1_3 dX12_leansAs_1 (by decide) (by decide) rfl (by decide) ?_
          refine j_aload_n X dX12_leansAs_98 rfl rfl ?_
          refine j_bipush (v := (71 : Int32)) X dX12_leansAs_99 (by decide) ?_
          obtain ⟨q10, g_q10, hf⟩ := ob_t hf
          refine j_callV X [0, 1, 2, 3, 4, 5, 6, 7, 8, 9, 10, 11, 12, 13] 0 (c_X12_begins E h g g_q10) (cut_wM_wM_c ..) rfl rfl (ws' := (wM E h g q10)) (cut_wM_wM_w ..) (wM_0 ..) rfl k_1259 k_1261 k_61 k_80 k_1262 (⟨rfl, rfl⟩) hdV_X12_begins ⟨by dsimp only [rmOf]; omega, by dsimp only [rmOf]; omega⟩ rfl (Nat.le_of_ble_eq_true rfl) rfl dX12_leansAs_101 ?_
          refine j_aload_n X dX12_leansAs_104 rfl rfl ?_
          refine j_bipush (v := (6 : Int32)) X dX12_leansAs_105 (by decide) ?_
          obtain ⟨q11, g_q11, hf⟩ := ob_t hf
          refine j_callS X [] (c_X12_above E g_q11) rfl rfl rfl (ws' := (wM E h g q10)) rfl k_1263 k_1264 k_80 k_1265 (⟨rfl, rfl⟩) hdS_X12_above ⟨by dsimp only [rmOf]; omega, by dsimp only [rmOf]; omega⟩ rfl (Nat.le_of_ble_eq_true rfl) rfl dX12_leansAs_107 ?_
          refine j_iload_n X dX12_leansAs_110 rfl rfl ?_
          obtain ⟨q12, g_q12, hf⟩ := ob_t hf
          refine j_callV X [0, 1, 2, 3, 4, 5, 6, 7, 8, 9, 10, 11, 12, 13] 0 (H0 E h g _ _ _ _ g_q12) (cut_wM_wM_c ..) rfl rfl (ws' := (wM E h g q12.1)) (cut_wM_wM_w ..) (wM_0 ..) rfl k_1266 k_1268 k_62 k_80 k_1269 (⟨rfl, rfl⟩) hdV_X12_leansAs ⟨by dsimp only [rmOf]; omega, by dsimp only [rmOf]; omega⟩ rfl (Nat.le_of_ble_eq_true rfl) rfl dX12_leansAs_111 ?_
          refine j_aload_n X dX12_leansAs_114 rfl rfl ?_
          obtain ⟨q13, g_q13, hf⟩ := ob_t hf
          refine j_callV X [0, 1, 2, 3, 4, 5, 6, 7, 8, 9, 10, 11, 12, 13] 0 (c_X12_mNow E h g g_q13) (cut_wM_wM_c ..) rfl rfl (ws' := (wM E h g q13.1)) (cut_wM_wM_w ..) (wM_0 ..) rfl k_1270 k_1272 k_63 k_80 k_1273 (⟨rfl, rfl⟩) hdV_X12_mNow ⟨by dsimp only [rmOf]; omega, by dsimp only [rmOf]; omega⟩ rfl (Nat.le_of_ble_eq_true rfl) rfl dX12_leansAs_115 ?_
          refine j_iadd X dX12_leansAs_118 ?_
          obtain rfl := Option.some.inj hf
          exact j_iret X hr hlk rfl dX12_leansAs_119 hQ
        · replace hf := (if_neg n_1_3).symm.trans hf
          refine j_tsD (tgt := 120) X [0, 2, 5, 6] (List.forall_mem_cons.mpr ⟨lv_neT n_1_0 (a := 0) rfl, List.forall_mem_cons.mpr ⟨lv_neT n_1_1 (a := 2) rfl, List.forall_mem_cons.mpr ⟨lv_neT n_1_2 (a := 5) rfl, List.forall_mem_cons.mpr ⟨lv_neT n_1_3 (a := 6) rfl, fun _ h => by cases h⟩⟩⟩⟩) (by decide) (by decide) dX12_leansAs_1 (by decide) ?_
          refine j_aload_n X dX12_leansAs_120 rfl rfl ?_
          refine j_iload_n X dX12_leansAs_121 rfl rfl ?_
          obtain ⟨q14, g_q14, hf⟩ := ob_t hf
          refine j_callS X [] (c_X12_above E g_q14) rfl rfl rfl (ws' := (wM E h g μ)) rfl k_1263 k_1264 k_80 k_1265 (⟨rfl, rfl⟩) hdS_X12_above ⟨by dsimp only [rmOf]; omega, by dsimp only [rmOf]; omega⟩ rfl (Nat.le_of_ble_eq_true rfl) rfl dX12_leansAs_122 ?_
          refine j_iload_n X dX12_leansAs_125 rfl rfl ?_
          obtain ⟨q15, g_q15, hf⟩ := ob_t hf
          refine j_callV X [0, 1, 2, 3, 4, 5, 6, 7, 8, 9, 10, 11, 12, 13] 0 (H0 E h g _ _ _ _ g_q15) (cut_wM_wM_c ..) rfl rfl (ws' := (wM E h g q15.1)) (cut_wM_wM_w ..) (wM_0 ..) rfl k_1266 k_1268 k_62 k_80 k_1269 (⟨rfl, rfl⟩) hdV_X12_leansAs ⟨by dsimp only [rmOf]; omega, by dsimp only [rmOf]; omega⟩ rfl (Nat.le_of_ble_eq_true rfl) rfl dX12_leansAs_126 ?_
          obtain rfl := Option.some.inj hf
          exact j_iret X hr hlk rfl dX12_leansAs_129 hQ
def rec_Ml : Nat → RT_Ml
  | 0 => (fun _ _ _ => none)
  | d + 1 => (f_X12_leansAs_b (rec_Ml d))
theorem rk_Ml : ∀ d : Nat, HC_X12_leansAs (rec_Ml d) (9 * d) (198 * d) := by
  intro d
  induction d with
  | zero => exact (fun E h g μ x1 x2 r hf => by cases (show none = some r from hf))
  | succ d H0 =>
    exact fun E h g μ x1 x2 r hf => c_X12_leansAs_b (rec_Ml d) (9 * d) (198 * d) H0 E h g hf
def f_X12_leansAs (μ : Mem) (x1 : Int32) (x2 : Int32) : Option (Mem × Int32) := (rec_Ml 8) μ x1 x2
theorem c_X12_leansAs (E : Ev) (h : Nat → Nat) (g : Nat → Option Nat) {μ : Mem} {x1 : Int32} {x2 : Int32} {r : (Mem × Int32)} (hf : f_X12_leansAs μ x1 x2 = some r) : Ct E yX12_leansAs cX12_leansAs 3 (some .int) (rmOf 72 1584) (wM E h g μ) (wM E h g r.1) [.ref (h 0), .int x1, .int x2] (some (.int r.2)) := (rk_Ml 8) E h g _ _ _ _ hf
abbrev RT_Ms : Type := (Mem → Int32 → Int32 → Option (Mem × Int32))
def HC_X12_swaysAs (f : Mem → Int32 → Int32 → Option (Mem × Int32)) (F L : Nat) : Prop := ∀ (E : Ev) (h : Nat → Nat) (g : Nat → Option Nat) (μ : Mem) (x1 : Int32) (x2 : Int32) (r : (Mem × Int32)), f μ x1 x2 = some r → Ct E yX12_swaysAs cX12_swaysAs 3 (some .int) (rmOf F L) (wM E h g μ) (wM E h g r.1) [.ref (h 0), .int x1, .int x2] (some (.int r.2))
def f_X12_swaysAs_b (rec : RT_Ms) (μ : Mem) (x1 : Int32) (x2 : Int32) : Option (Mem × Int32) := (if x1 = (0 : Int32) then (f_X12_begins μ (12 : Int32)).bind fun q1 => ((f_X12_kindNow q1).bind fun q2 => ((f_X12_leansAs q2.1 q2.2 x2).bind fun q3 => ((f_X12_mNow q3.1).bind fun q4 => (some (q4.1, (q3.2 - q4.2)))))) else (if x1 = (3 : Int32) then (f_X12_begins μ (40 : Int32)).bind fun q5 => ((f_X12_above (3 : Int32)).bind fun q6 => ((rec q5 q6 (x2 / (2 : Int32))).bind fun q7 => (some (q7.1, q7.2)))) else (if x1 = (4 : Int32) then (f_X12_begins μ (51 : Int32)).bind fun q8 => ((f_X12_above (4 : Int32)).bind fun q9 => ((rec q8 q9 x2).bind fun q10 => (some (q10.1, (q10.2 ^^^ (q10.1 0 15)))))) else (f_X12_above x1).bind fun q11 => ((rec μ q11 x2).bind fun q12 => (some (q12.1, q12.2))))))
set_option maxHeartbeats 4000000 in
set_option maxRecDepth 20000 in
theorem c_X12_swaysAs_b (rec : RT_Ms) (F L : Nat) (H0 : HC_X12_swaysAs rec F L) (E : Ev) (h : Nat → Nat) (g : Nat → Option Nat) {μ : Mem} {x1 : Int32} {x2 : Int32} {r : (Mem × Int32)} (hf : f_X12_swaysAs_b rec μ x1 x2 = some r) : Ct E yX12_swaysAs cX12_swaysAs 3 (some .int) (rmOf (F + 73) (L + 1606)) (wM E h g μ) (wM E h g r.1) [.ref (h 0), .int x1, .int x2] (some (.int r.2)) := by
  refine ct_start RX12 0 (by decide) rfl (Nat.le_of_ble_eq_true rfl) ?_
  intro p l e s m args below meth c A Q X hr hlk hQ
  rw [f_X12_swaysAs_b] at hf
  refine j_iload_n X dX12_swaysAs_0 rfl rfl ?_
  by_cases n_1_0 : x1 = (0 : Int32)
  · replace hf := (if_pos n_1_0).symm.trans hf
    refine j_tsI (k := (0 : Int32)) (tgt := 36) X n_1_0 dX12_swaysAs_1 (by decide) (by decide) rfl (by decide) ?_
    refine j_aload_n X dX12_swaysAs_36 rfl rfl ?_
    refine j_bipush (v := (12 : Int32)) X dX12_swaysAs_37 (by decide) ?_
    obtain ⟨q1, g_q1, hf⟩ := ob_t hf
    refine j_callV X [0, 1, 2, 3, 4, 5, 6, 7, 8, 9, 10, 11, 12, 13] 0 (c_X12_begins E h g g_q1) (cut_wM_wM_c ..) rfl rfl (ws' := (wM E h g q1)) (cut_wM_wM_w ..) (wM_0 ..) rfl k_1259 k_1261 k_61 k_80 k_1262 (⟨rfl, rfl⟩) hdV_X12_begins ⟨by dsimp only [rmOf]; omega, by dsimp only [rmOf]; omega⟩ rfl (Nat.le_of_ble_eq_true rfl) rfl dX12_swaysAs_39 ?_
    refine j_aload_n X dX12_swaysAs_42 rfl rfl ?_
    refine j_aload_n X dX12_swaysAs_43 rfl rfl ?_
    obtain ⟨q2, g_q2, hf⟩ := ob_t hf
    refine j_callV X [0, 1, 2, 3, 4, 5, 6, 7, 8, 9, 10, 11, 12, 13] 0 (c_X12_kindNow E h g g_q2) (cut_wM_wM_c ..) rfl rfl (ws' := (wM E h g q2.1)) (cut_wM_wM_w ..) (wM_0 ..) rfl k_1251 k_1253 k_59 k_80 k_1254 (⟨rfl, rfl⟩) hdV_X12_kindNow ⟨by dsimp only [rmOf]; omega, by dsimp only [rmOf]; omega⟩ rfl (Nat.le_of_ble_eq_true rfl) rfl dX12_swaysAs_44 ?_
    refine j_iload_n X dX12_swaysAs_47 rfl rfl ?_
    obtain ⟨q3, g_q3, hf⟩ := ob_t hf
    refine j_callV X [0, 1, 2, 3, 4, 5, 6, 7, 8, 9, 10, 11, 12, 13] 0 (c_X12_leansAs E h g g_q3) (cut_wM_wM_c ..) rfl rfl (ws' := (wM E h g q3.1)) (cut_wM_wM_w ..) (wM_0 ..) rfl k_1266 k_1268 k_62 k_80 k_1269 (⟨rfl, rfl⟩) hdV_X12_leansAs ⟨by dsimp only [rmOf]; omega, by dsimp only [rmOf]; omega⟩ rfl (Nat.le_of_ble_eq_true rfl) rfl dX12_swaysAs_48 ?_
    refine j_aload_n X dX12_swaysAs_51 rfl rfl ?_
    obtain ⟨q4, g_q4, hf⟩ := ob_t hf
    refine j_callV X [0, 1, 2, 3, 4, 5, 6, 7, 8, 9, 10, 11, 12, 13] 0 (c_X12_mNow E h g g_q4) (cut_wM_wM_c ..) rfl rfl (ws' := (wM E h g q4.1)) (cut_wM_wM_w ..) (wM_0 ..) rfl k_1270 k_1272 k_63 k_80 k_1273 (⟨rfl, rfl⟩) hdV_X12_mNow ⟨by dsimp only [rmOf]; omega, by dsimp only [rmOf]; omega⟩ rfl (Nat.le_of_ble_eq_true rfl) rfl dX12_swaysAs_52 ?_
    refine j_isub X dX12_swaysAs_55 ?_
    obtain rfl := Option.some.inj hf
    exact j_iret X hr hlk rfl dX12_swaysAs_56 hQ
  · replace hf := (if_neg n_1_0).symm.trans hf
    by_cases n_1_1 : x1 = (3 : Int32)
    · replace hf := (if_pos n_1_1).symm.trans hf
      refine j_tsI (k := (3 : Int32)) (tgt := 57) X n_1_1 dX12_swaysAs_1 (by decide) (by decide) rfl (by decide) ?_
      refine j_aload_n X dX12_swaysAs_57 rfl rfl ?_
      refine j_bipush (v := (40 : Int32)) X dX12_swaysAs_58 (by decide) ?_
      obtain ⟨q5, g_q5, hf⟩ := ob_t hf
      refine j_callV X [0, 1, 2, 3, 4, 5, 6, 7, 8, 9, 10, 11, 12, 13] 0 (c_X12_begins E h g g_q5) (cut_wM_wM_c ..) rfl rfl (ws' := (wM E h g q5)) (cut_wM_wM_w ..) (wM_0 ..) rfl k_1259 k_1261 k_61 k_80 k_1262 (⟨rfl, rfl⟩) hdV_X12_begins ⟨by dsimp only [rmOf]; omega, by dsimp only [rmOf]; omega⟩ rfl (Nat.le_of_ble_eq_true rfl) rfl dX12_swaysAs_60 ?_
      refine j_aload_n X dX12_swaysAs_63 rfl rfl ?_
      refine j_iconst (v := (3 : Int32)) X dX12_swaysAs_64 (by decide) ?_
      obtain ⟨q6, g_q6, hf⟩ := ob_t hf
      refine j_callS X [] (c_X12_above E g_q6) rfl rfl rfl (ws' := (wM E h g q5)) rfl k_1263 k_1264 k_80 k_1265 (⟨rfl, rfl⟩) hdS_X12_above ⟨by dsimp only [rmOf]; omega, by dsimp only [rmOf]; omega⟩ rfl (Nat.le_of_ble_eq_true rfl) rfl dX12_swaysAs_65 ?_
      refine j_iload_n X dX12_swaysAs_68 rfl rfl ?_
      refine j_iconst (v := (2 : Int32)) X dX12_swaysAs_69 (by decide) ?_
      refine j_idiv X dX12_swaysAs_70 (by decide) ?_
      obtain ⟨q7, g_q7, hf⟩ := ob_t hf
      refine j_callV X [0, 1, 2, 3, 4, 5, 6, 7, 8, 9, 10, 11, 12, 13] 0 (H0 E h g _ _ _ _ g_q7) (cut_wM_wM_c ..) rfl rfl (ws' := (wM E h g q7.1)) (cut_wM_wM_w ..) (wM_0 ..) rfl k_1274 k_1276 k_64 k_80 k_1277 (⟨rfl, rfl⟩) hdV_X12_swaysAs ⟨by dsimp only [rmOf]; omega, by dsimp only [rmOf]; omega⟩ rfl (Nat.le_of_ble_eq_true rfl) rfl dX12_swaysAs_71 ?_
      obtain rfl := Option.some.inj hf
      exact j_iret X hr hlk rfl dX12_swaysAs_74 hQ
    · replace hf := (if_neg n_1_1).symm.trans hf
      by_cases n_1_2 : x1 = (4 : Int32)
      · replace hf := (if_pos n_1_2).symm.trans hf
        refine j_tsI (k := (4 : Int32)) (tgt := 75) X n_1_2 dX12_swaysAs_1 (by decide) (by decide) rfl (by decide) ?_
        refine j_aload_n X dX12_swaysAs_75 rfl rfl ?_
        refine j_bipush (v := (51 : Int32)) X dX12_swaysAs_76 (by decide) ?_
        obtain ⟨q8, g_q8, hf⟩ := ob_t hf
        refine j_callV X [0, 1, 2, 3, 4, 5, 6, 7, 8, 9, 10, 11, 12, 13] 0 (c_X12_begins E h g g_q8) (cut_wM_wM_c ..) rfl rfl (ws' := (wM E h g q8)) (cut_wM_wM_w ..) (wM_0 ..) rfl k_1259 k_1261 k_61 k_80 k_1262 (⟨rfl, rfl⟩) hdV_X12_begins ⟨by dsimp only [rmOf]; omega, by dsimp only [rmOf]; omega⟩ rfl (Nat.le_of_ble_eq_true rfl) rfl dX12_swaysAs_78 ?_
        refine j_aload_n X dX12_swaysAs_81 rfl rfl ?_
        refine j_iconst (v := (4 : Int32)) X dX12_swaysAs_82 (by decide) ?_
        obtain ⟨q9, g_q9, hf⟩ := ob_t hf
        refine j_callS X [] (c_X12_above E g_q9) rfl rfl rfl (ws' := (wM E h g q8)) rfl k_1263 k_1264 k_80 k_1265 (⟨rfl, rfl⟩) hdS_X12_above ⟨by dsimp only [rmOf]; omega, by dsimp only [rmOf]; omega⟩ rfl (Nat.le_of_ble_eq_true rfl) rfl dX12_swaysAs_83 ?_
        refine j_iload_n X dX12_swaysAs_86 rfl rfl ?_
        obtain ⟨q10, g_q10, hf⟩ := ob_t hf
        refine j_callV X [0, 1, 2, 3, 4, 5, 6, 7, 8, 9, 10, 11, 12, 13] 0 (H0 E h g _ _ _ _ g_q10) (cut_wM_wM_c ..) rfl rfl (ws' := (wM E h g q10.1)) (cut_wM_wM_w ..) (wM_0 ..) rfl k_1274 k_1276 k_64 k_80 k_1277 (⟨rfl, rfl⟩) hdV_X12_swaysAs ⟨by dsimp only [rmOf]; omega, by dsimp only [rmOf]; omega⟩ rfl (Nat.le_of_ble_eq_true rfl) rfl dX12_swaysAs_87 ?_
        refine j_aload_n X dX12_swaysAs_90 rfl rfl ?_
        refine j_get (C := RX12) (T := TX12) (N := 21) X iX12 0 (wM_0 ..) rfl 15 (by decide) k_931 rfl rfl dX12_swaysAs_91 ?_
        refine j_ixor X dX12_swaysAs_94 ?_
        obtain rfl := Option.some.inj hf
        exact j_iret X hr hlk rfl dX12_swaysAs_95 hQ
      · replace hf := (if_neg n_1_2).symm.trans hf
        refine j_tsD (tgt := 96) X [0, 3, 4] (List.forall_mem_cons.mpr ⟨lv_neT n_1_0 (a := 0) rfl, List.forall_mem_cons.mpr ⟨lv_neT n_1_1 (a := 3) rfl, List.forall_mem_cons.mpr ⟨lv_neT n_1_2 (a := 4) rfl, fun _ h => by cases h⟩⟩⟩) (by decide) (by decide) dX12_swaysAs_1 (by decide) ?_
        refine j_aload_n X dX12_swaysAs_96 rfl rfl ?_
        refine j_iload_n X dX12_swaysAs_97 rfl rfl ?_
        obtain ⟨q11, g_q11, hf⟩ := ob_t hf
        refine j_callS X [] (c_X12_above E g_q11) rfl rfl rfl (ws' := (wM E h g μ)) rfl k_1263 k_1264 k_80 k_1265 (⟨rfl, rfl⟩) hdS_X12_above ⟨by dsimp only [rmOf]; omega, by dsimp only [rmOf]; omega⟩ rfl (Nat.le_of_ble_eq_true rfl) rfl dX12_swaysAs_98 ?_
        refine j_iload_n X dX12_swaysAs_101 rfl rfl ?_
        obtain ⟨q12, g_q12, hf⟩ := ob_t hf
        refine j_callV X [0, 1, 2, 3, 4, 5, 6, 7, 8, 9, 10, 11, 12, 13] 0 (H0 E h g _ _ _ _ g_q12) (cut_wM_wM_c ..) rfl rfl (ws' := (wM E h g q12.1)) (cut_wM_wM_w ..) (wM_0 ..) rfl k_1274 k_1276 k_64 k_80 k_1277 (⟨rfl, rfl⟩) hdV_X12_swaysAs ⟨by dsimp only [rmOf]; omega, by dsimp only [rmOf]; omega⟩ rfl (Nat.le_of_ble_eq_true rfl) rfl dX12_swaysAs_102 ?_
        obtain rfl := Option.some.inj hf
        exact j_iret X hr hlk rfl dX12_swaysAs_105 hQ
def rec_Ms : Nat → RT_Ms
  | 0 => (fun _ _ _ => none)
  | d + 1 => (f_X12_swaysAs_b (rec_Ms d))
theorem rk_Ms : ∀ d : Nat, HC_X12_swaysAs (rec_Ms d) (73 * d) (1606 * d) := by
  intro d
  induction d with
  | zero => exact (fun E h g μ x1 x2 r hf => by cases (show none = some r from hf))
  | succ d H0 =>
    exact fun E h g μ x1 x2 r hf => c_X12_swaysAs_b (rec_Ms d) (73 * d) (1606 * d) H0 E h g hf
def f_X12_swaysAs (μ : Mem) (x1 : Int32) (x2 : Int32) : Option (Mem × Int32) := (rec_Ms 8) μ x1 x2
theorem c_X12_swaysAs (E : Ev) (h : Nat → Nat) (g : Nat → Option Nat) {μ : Mem} {x1 : Int32} {x2 : Int32} {r : (Mem × Int32)} (hf : f_X12_swaysAs μ x1 x2 = some r) : Ct E yX12_swaysAs cX12_swaysAs 3 (some .int) (rmOf 584 12848) (wM E h g μ) (wM E h g r.1) [.ref (h 0), .int x1, .int x2] (some (.int r.2)) := (rk_Ms 8) E h g _ _ _ _ hf
abbrev RT_Mp : Type := (Mem → Int32 → Int32 → Option (Mem × Int32))
def HC_X12_partsAs (f : Mem → Int32 → Int32 → Option (Mem × Int32)) (F L : Nat) : Prop := ∀ (E : Ev) (h : Nat → Nat) (g : Nat → Option Nat) (μ : Mem) (x1 : Int32) (x2 : Int32) (r : (Mem × Int32)), f μ x1 x2 = some r → Ct E yX12_partsAs cX12_partsAs 5 (some .int) (rmOf F L) (wM E h g μ) (wM E h g r.1) [.ref (h 0), .int x1, .int x2] (some (.int r.2))
def f_X12_partsAs_L54 (rec : RT_Mp) (μ : Mem) (x2 : Int32) (x3 : Int32) (t0 : Int32) : Option (Mem × Int32) := (if t0 = 0 ∨ t0 = 1 then bd (upA μ 0 (upd (μ 0) 16 t0)) fun μ6 => ((if x3 = 0 then some (μ6, (0 : Int32)) else (if x3 = (-1 : Int32) then some (μ6, (-x2)) else (if ¬ x3 = 0 then some (μ6, (x2 / x3)) else none)))) else none)
def f_X12_partsAs_b (rec : RT_Mp) (μ : Mem) (x1 : Int32) (x2 : Int32) : Option (Mem × Int32) := (if x1 = (0 : Int32) then (f_X12_begins μ (13 : Int32)).bind fun q3 => ((f_X12_mNow q3).bind fun q4 => (bd (q4.2 - (q4.1 0 15)) fun y5 => ((if y5 = 0 then f_X12_partsAs_L54 rec q4.1 x2 y5 (1 : Int32) else f_X12_partsAs_L54 rec q4.1 x2 y5 (0 : Int32))))) else (if x1 = (1 : Int32) then (f_X12_begins μ (21 : Int32)).bind fun q9 => ((f_X12_above (1 : Int32)).bind fun q10 => ((rec q9 q10 x2).bind fun q11 => ((if (q11.1 0 16) = 0 then (f_X12_kindNow q11.1).bind fun q12 => ((f_X12_leansAs q12.1 q12.2 (1 : Int32)).bind fun q13 => (some (q13.1, (q11.2 + q13.2)))) else some (q11.1, (0 : Int32)))))) else (f_X12_above x1).bind fun q1 => ((rec μ q1 x2).bind fun q2 => (some (q2.1, q2.2)))))
set_option maxHeartbeats 4000000 in
set_option maxRecDepth 20000 in
theorem c_X12_partsAs_b (rec : RT_Mp) (F L : Nat) (H0 : HC_X12_partsAs rec F L) (E : Ev) (h : Nat → Nat) (g : Nat → Option Nat) {μ : Mem} {x1 : Int32} {x2 : Int32} {r : (Mem × Int32)} (hf : f_X12_partsAs_b rec μ x1 x2 = some r) : Ct E yX12_partsAs cX12_partsAs 5 (some .int) (rmOf (F + 73) (L + 1606)) (wM E h g μ) (wM E h g r.1) [.ref (h 0), .int x1, .int x2] (some (.int r.2)) := by
  refine ct_start RX12 2 (by decide) rfl (Nat.le_of_ble_eq_true rfl) ?_
  intro p l e s m args below meth c A Q X hr hlk hQ
  have lab54 : ∀ (μ : Mem) (x2 : Int32) (x3 : Int32) (t0 : Int32), f_X12_partsAs_L54 rec μ x2 x3 t0 = some r → J p l e (rmOf (F + 73) (L + 1606)) s m args below meth c E A 5 Q (wM E h g μ) [none, none, some (.int x2), some (.int x3), none] 54 [.int t0, .ref (h 0)] := by
    intro  μ x2 x3 t0 hf
    rw [f_X12_partsAs_L54] at hf
    obtain ⟨c7, hf⟩ := oi_t hf
    obtain ⟨μ6, e_μ6, hf⟩ := bd_e hf
    refine j_put (C := RX12) (T := TX12) (N := 21) X iX12 0 (wM_0 ..) rfl 16 (by decide) k_932 rfl tyX12 tyX12_ok nmX12 rfl (ty := .boolean) (by decide +kernel) (nb01 c7) (fb01 c7) (Nat.le_of_ble_eq_true rfl) dX12_partsAs_54 (ws' := (wM E h g μ6)) (by rw [e_μ6]; exact wM_f0_16 ..) ?_
    refine j_iload_n X dX12_partsAs_57 rfl rfl ?_
    refine j_if_ne (tgt := 65) X dX12_partsAs_58 (by decide) (fun c_58 => ?_) (fun c_58 => ?_)
    · replace hf := (if_neg c_58).symm.trans hf
      refine j_iload_n X dX12_partsAs_65 rfl rfl ?_
      refine j_iconst (v := (-1 : Int32)) X dX12_partsAs_66 (by decide) ?_
      refine j_icmp_ne (tgt := 75) X dX12_partsAs_67 (by decide) (fun c_67 => ?_) (fun c_67 => ?_)
      · replace hf := (if_neg c_67).symm.trans hf
        refine j_iload_n X dX12_partsAs_75 rfl rfl ?_
        refine j_iload_n X dX12_partsAs_76 rfl rfl ?_
        obtain ⟨c8, hf⟩ := oi_t hf
        refine j_idiv X dX12_partsAs_77 c8 ?_
        obtain rfl := Option.some.inj hf
        exact j_iret X hr hlk rfl dX12_partsAs_78 hQ
      · replace hf := (if_pos c_67).symm.trans hf
        refine j_iload_n X dX12_partsAs_70 rfl rfl ?_
        refine j_ineg X dX12_partsAs_71 ?_
        refine j_goto (tgt := 78) X dX12_partsAs_72 (by decide) ?_
        obtain rfl := Option.some.inj hf
        exact j_iret X hr hlk rfl dX12_partsAs_78 hQ
    · replace hf := (if_pos c_58).symm.trans hf
      refine j_iconst (v := (0 : Int32)) X dX12_partsAs_61 (by decide) ?_
      refine j_goto (tgt := 78) X dX12_partsAs_62 (by decide) ?_
      obtain rfl := Option.some.inj hf
      exact j_iret X hr hlk rfl dX12_partsAs_78 hQ
  rw [f_X12_partsAs_b] at hf
  refine j_iload_n X dX12_partsAs_0 rfl rfl ?_
  by_cases n_1_0 : x1 = (0 : Int32)
  · replace hf := (if_pos n_1_0).symm.trans hf
    refine j_lsw (off := 27) (tgt := 28) X dX12_partsAs_1 (by decide) (by rw [n_1_0]; decide) (by decide) ?_
    refine j_aload_n X dX12_partsAs_28 rfl rfl ?_
    refine j_bipush (v := (13 : Int32)) X dX12_partsAs_29 (by decide) ?_
    obtain ⟨q3, g_q3, hf⟩ := ob_t hf
    refine j_callV X [0, 1, 2, 3, 4, 5, 6, 7, 8, 9, 10, 11, 12, 13] 0 (c_X12_begins E h g g_q3) (cut_wM_wM_c ..) rfl rfl (ws' := (wM E h g q3)) (cut_wM_wM_w ..) (wM_0 ..) rfl k_1259 k_1261 k_61 k_80 k_1262 (⟨rfl, rfl⟩) hdV_X12_begins ⟨by dsimp only [rmOf]; omega, by dsimp only [rmOf]; omega⟩ rfl (Nat.le_of_ble_eq_true rfl) rfl dX12_partsAs_31 ?_
    refine j_aload_n X dX12_partsAs_34 rfl rfl ?_
    obtain ⟨q4, g_q4, hf⟩ := ob_t hf
    refine j_callV X [0, 1, 2, 3, 4, 5, 6, 7, 8, 9, 10, 11, 12, 13] 0 (c_X12_mNow E h g g_q4) (cut_wM_wM_c ..) rfl rfl (ws' := (wM E h g q4.1)) (cut_wM_wM_w ..) (wM_0 ..) rfl k_1270 k_1272 k_63 k_80 k_1273 (⟨rfl, rfl⟩) hdV_X12_mNow ⟨by dsimp only [rmOf]; omega, by dsimp only [rmOf]; omega⟩ rfl (Nat.le_of_ble_eq_true rfl) rfl dX12_partsAs_35 ?_
    refine j_aload_n X dX12_partsAs_38 rfl rfl ?_
    refine j_get (C := RX12) (T := TX12) (N := 21) X iX12 0 (wM_0 ..) rfl 15 (by decide) k_931 rfl rfl dX12_partsAs_39 ?_
    refine j_isub X dX12_partsAs_42 ?_
    obtain ⟨y5, e_y5, hf⟩ := bd_e hf
    refine j_top e_y5 ?_
    refine j_istore_n3 X dX12_partsAs_43 rfl (by decide) rfl ?_
    refine j_aload_n X dX12_partsAs_44 rfl rfl ?_
    refine j_iload_n X dX12_partsAs_45 rfl rfl ?_
    refine j_if_ne (tgt := 53) X dX12_partsAs_46 (by decide) (fun c_46 => ?_) (fun c_46 => ?_)
    · replace hf := (if_neg c_46).symm.trans hf
      refine j_iconst (v := (0 : Int32)) X dX12_partsAs_53 (by decide) ?_
      refine j_keep [false, false, true, true, false] rfl ?_
      exact lab54 _ _ _ _ hf
    · replace hf := (if_pos c_46).symm.trans hf
      refine j_iconst (v := (1 : Int32)) X dX12_partsAs_49 (by decide) ?_
      refine j_goto (tgt := 54) X dX12_partsAs_50 (by decide) ?_
      refine j_keep [false, false, true, true, false] rfl ?_
      exact lab54 _ _ _ _ hf
  · replace hf := (if_neg n_1_0).symm.trans hf
    by_cases n_1_1 : x1 = (1 : Int32)
    · replace hf := (if_pos n_1_1).symm.trans hf
      refine j_lsw (off := 78) (tgt := 79) X dX12_partsAs_1 (by decide) (by rw [n_1_1]; decide) (by decide) ?_
      refine j_aload_n X dX12_partsAs_79 rfl rfl ?_
      refine j_bipush (v := (21 : Int32)) X dX12_partsAs_80 (by decide) ?_
      obtain ⟨q9, g_q9, hf⟩ := ob_t hf
      refine j_callV X [0, 1, 2, 3, 4, 5, 6, 7, 8, 9, 10, 11, 12, 13] 0 (c_X12_begins E h g g_q9) (cut_wM_wM_c ..) rfl rfl (ws' := (wM E h g q9)) (cut_wM_wM_w ..) (wM_0 ..) rfl k_1259 k_1261 k_61 k_80 k_1262 (⟨rfl, rfl⟩) hdV_X12_begins ⟨by dsimp only [rmOf]; omega, by dsimp only [rmOf]; omega⟩ rfl (Nat.le_of_ble_eq_true rfl) rfl dX12_partsAs_82 ?_
      refine j_aload_n X dX12_partsAs_85 rfl rfl ?_
      refine j_iconst (v := (1 : Int32)) X dX12_partsAs_86 (by decide) ?_
      obtain ⟨q10, g_q10, hf⟩ := ob_t hf
      refine j_callS X [] (c_X12_above E g_q10) rfl rfl rfl (ws' := (wM E h g q9)) rfl k_1263 k_1264 k_80 k_1265 (⟨rfl, rfl⟩) hdS_X12_above ⟨by dsimp only [rmOf]; omega, by dsimp only [rmOf]; omega⟩ rfl (Nat.le_of_ble_eq_true rfl) rfl dX12_partsAs_87 ?_
      refine j_iload_n X dX12_partsAs_90 rfl rfl ?_
      obtain ⟨q11, g_q11, hf⟩ := ob_t hf
      refine j_callV X [0, 1, 2, 3, 4, 5, 6, 7, 8, 9, 10, 11, 12, 13] 0 (H0 E h g _ _ _ _ g_q11) (cut_wM_wM_c ..) rfl rfl (ws' := (wM E h g q11.1)) (cut_wM_wM_w ..) (wM_0 ..) rfl k_1278 k_1280 k_65 k_80 k_1281 (⟨rfl, rfl⟩) hdV_X12_partsAs ⟨by dsimp only [rmOf]; omega, by dsimp only [rmOf]; omega⟩ rfl (Nat.le_of_ble_eq_true rfl) rfl dX12_partsAs_91 ?_
      refine j_istore4 X dX12_partsAs_94 (by decide) rfl ?_
      refine j_aload_n X dX12_partsAs_96 rfl rfl ?_
      refine j_get (C := RX12) (T := TX12) (N := 21) X iX12 0 (wM_0 ..) rfl 16 (by decide) k_932 rfl rfl dX12_partsAs_97 ?_
      refine j_if_eq (tgt := 107) X dX12_partsAs_100 (by decide) (fun c_100 => ?_) (fun c_100 => ?_)
      · replace hf := (if_pos c_100).symm.trans hf
        refine j_iload X dX12_partsAs_107 rfl ?_
        refine j_aload_n X dX12_partsAs_109 rfl rfl ?_
        refine j_aload_n X dX12_partsAs_110 rfl rfl ?_
        obtain ⟨q12, g_q12, hf⟩ := ob_t hf
        refine j_callV X [0, 1, 2, 3, 4, 5, 6, 7, 8, 9, 10, 11, 12, 13] 0 (c_X12_kindNow E h g g_q12) (cut_wM_wM_c ..) rfl rfl (ws' := (wM E h g q12.1)) (cut_wM_wM_w ..) (wM_0 ..) rfl k_1251 k_1253 k_59 k_80 k_1254 (⟨rfl, rfl⟩) hdV_X12_kindNow ⟨by dsimp only [rmOf]; omega, by dsimp only [rmOf]; omega⟩ rfl (Nat.le_of_ble_eq_true rfl) rfl dX12_partsAs_111 ?_
        refine j_iconst (v := (1 : Int32)) X dX12_partsAs_114 (by decide) ?_
        obtain ⟨q13, g_q13, hf⟩ := ob_t hf
        refine j_callV X [0, 1, 2, 3, 4, 5, 6, 7, 8, 9, 10, 11, 12, 13] 0 (c_X12_leansAs E h g g_q13) (cut_wM_wM_c ..) rfl rfl (ws' := (wM E h g q13.1)) (cut_wM_wM_w ..) (wM_0 ..) rfl k_1266 k_1268 k_62 k_80 k_1269 (⟨rfl, rfl⟩) hdV_X12_leansAs ⟨by dsimp only [rmOf]; omega, by dsimp only [rmOf]; omega⟩ rfl (Nat.le_of_ble_eq_true rfl) rfl dX12_partsAs_115 ?_
        refine j_iadd X dX12_partsAs_118 ?_
        obtain rfl := Option.some.inj hf
        exact j_iret X hr hlk rfl dX12_partsAs_119 hQ
      · replace hf := (if_neg c_100).symm.trans hf
        refine j_iconst (v := (0 : Int32)) X dX12_partsAs_103 (by decide) ?_
        refine j_goto (tgt := 119) X dX12_partsAs_104 (by decide) ?_
        obtain rfl := Option.some.inj hf
        exact j_iret X hr hlk rfl dX12_partsAs_119 hQ
    · replace hf := (if_neg n_1_1).symm.trans hf
      refine j_lsw (off := 119) (tgt := 120) X dX12_partsAs_1 (by decide) ((lv_osw n_1_0 rfl).trans <| (lv_osw n_1_1 rfl).trans <| rfl) (by decide) ?_
      refine j_aload_n X dX12_partsAs_120 rfl rfl ?_
      refine j_iload_n X dX12_partsAs_121 rfl rfl ?_
      obtain ⟨q1, g_q1, hf⟩ := ob_t hf
      refine j_callS X [] (c_X12_above E g_q1) rfl rfl rfl (ws' := (wM E h g μ)) rfl k_1263 k_1264 k_80 k_1265 (⟨rfl, rfl⟩) hdS_X12_above ⟨by dsimp only [rmOf]; omega, by dsimp only [rmOf]; omega⟩ rfl (Nat.le_of_ble_eq_true rfl) rfl dX12_partsAs_122 ?_
      refine j_iload_n X dX12_partsAs_125 rfl rfl ?_
      obtain ⟨q2, g_q2, hf⟩ := ob_t hf
      refine j_callV X [0, 1, 2, 3, 4, 5, 6, 7, 8, 9, 10, 11, 12, 13] 0 (H0 E h g _ _ _ _ g_q2) (cut_wM_wM_c ..) rfl rfl (ws' := (wM E h g q2.1)) (cut_wM_wM_w ..) (wM_0 ..) rfl k_1278 k_1280 k_65 k_80 k_1281 (⟨rfl, rfl⟩) hdV_X12_partsAs ⟨by dsimp only [rmOf]; omega, by dsimp only [rmOf]; omega⟩ rfl (Nat.le_of_ble_eq_true rfl) rfl dX12_partsAs_126 ?_
      obtain rfl := Option.some.inj hf
      exact j_iret X hr hlk rfl dX12_partsAs_129 hQ
def rec_Mp : Nat → RT_Mp
  | 0 => (fun _ _ _ => none)
  | d + 1 => (f_X12_partsAs_b (rec_Mp d))
theorem rk_Mp : ∀ d : Nat, HC_X12_partsAs (rec_Mp d) (73 * d) (1606 * d) := by
  intro d
  induction d with
  | zero => exact (fun E h g μ x1 x2 r hf => by cases (show none = some r from hf))
  | succ d H0 =>
    exact fun E h g μ x1 x2 r hf => c_X12_partsAs_b (rec_Mp d) (73 * d) (1606 * d) H0 E h g hf
def f_X12_partsAs (μ : Mem) (x1 : Int32) (x2 : Int32) : Option (Mem × Int32) := (rec_Mp 8) μ x1 x2
theorem c_X12_partsAs (E : Ev) (h : Nat → Nat) (g : Nat → Option Nat) {μ : Mem} {x1 : Int32} {x2 : Int32} {r : (Mem × Int32)} (hf : f_X12_partsAs μ x1 x2 = some r) : Ct E yX12_partsAs cX12_partsAs 5 (some .int) (rmOf 584 12848) (wM E h g μ) (wM E h g r.1) [.ref (h 0), .int x1, .int x2] (some (.int r.2)) := (rk_Mp 8) E h g _ _ _ _ hf
abbrev RT_Mt : Type := (Mem → Option (Mem × Int32)) × (Mem → Option (Mem × Int32)) × (Mem → Option (Mem × Int32)) × (Mem → Option (Mem × Int32)) × (Mem → Option (Mem × Int32)) × (Mem → Option (Mem × Int32))
def HC_X12_whole (f : Mem → Option (Mem × Int32)) (F L : Nat) : Prop := ∀ (E : Ev) (h : Nat → Nat) (g : Nat → Option Nat) (μ : Mem) (r : (Mem × Int32)), f μ = some r → Ct E yX12_whole cX12_whole 1 (some .boolean) (rmOf F L) (wM E h g μ) (wM E h g r.1) [.ref (h 0)] (some (.int r.2))
def HC_X12_both (f : Mem → Option (Mem × Int32)) (F L : Nat) : Prop := ∀ (E : Ev) (h : Nat → Nat) (g : Nat → Option Nat) (μ : Mem) (r : (Mem × Int32)), f μ = some r → Ct E yX12_both cX12_both 1 (some .boolean) (rmOf F L) (wM E h g μ) (wM E h g r.1) [.ref (h 0)] (some (.int r.2))
def HC_X12_compared (f : Mem → Option (Mem × Int32)) (F L : Nat) : Prop := ∀ (E : Ev) (h : Nat → Nat) (g : Nat → Option Nat) (μ : Mem) (r : (Mem × Int32)), f μ = some r → Ct E yX12_compared cX12_compared 2 (some .boolean) (rmOf F L) (wM E h g μ) (wM E h g r.1) [.ref (h 0)] (some (.int r.2))
def HC_X12_sum (f : Mem → Option (Mem × Int32)) (F L : Nat) : Prop := ∀ (E : Ev) (h : Nat → Nat) (g : Nat → Option Nat) (μ : Mem) (r : (Mem × Int32)), f μ = some r → Ct E yX12_sum cX12_sum 2 (some .boolean) (rmOf F L) (wM E h g μ) (wM E h g r.1) [.ref (h 0)] (some (.int r.2))
def HC_X12_product (f : Mem → Option (Mem × Int32)) (F L : Nat) : Prop := ∀ (E : Ev) (h : Nat → Nat) (g : Nat → Option Nat) (μ : Mem) (r : (Mem × Int32)), f μ = some r → Ct E yX12_product cX12_product 2 (some .boolean) (rmOf F L) (wM E h g μ) (wM E h g r.1) [.ref (h 0)] (some (.int r.2))
def HC_X12_one (f : Mem → Option (Mem × Int32)) (F L : Nat) : Prop := ∀ (E : Ev) (h : Nat → Nat) (g : Nat → Option Nat) (μ : Mem) (r : (Mem × Int32)), f μ = some r → Ct E yX12_one cX12_one 4 (some .boolean) (rmOf F L) (wM E h g μ) (wM E h g r.1) [.ref (h 0)] (some (.int r.2))
def f_X12_whole_L9 (rec : RT_Mt) : Nat → Mem → Option (Mem × Int32)
  | 0, _ => none
  | n + 1, μ => (f_X12_look μ).bind fun q2 => ((if q2.2 = (124 : Int32) then bd (upA q2.1 0 (upd (q2.1 0) 5 ((q2.1 0 5) + (1 : Int32)))) fun μ3 => ((rec.2.1 μ3).bind fun q4 => ((if q4.2 = 0 then some (q4.1, (0 : Int32)) else (f_X12_step1 q4.1 (3 : Int32) (124 : Int32)).bind fun q5 => ((f_X12_whole_L9 rec n) q5)))) else some (q2.1, (1 : Int32))))
def f_X12_whole_b (rec : RT_Mt) (μ : Mem) : Option (Mem × Int32) := (rec.2.1 μ).bind fun q1 => ((if q1.2 = 0 then some (q1.1, (0 : Int32)) else f_X12_whole_L9 rec fuel0 q1.1))
set_option maxHeartbeats 4000000 in
set_option maxRecDepth 20000 in
theorem c_X12_whole_b (rec : RT_Mt) (F L : Nat) (H0 : HC_X12_whole rec.1 F L) (H1 : HC_X12_both rec.2.1 F L) (H2 : HC_X12_compared rec.2.2.1 F L) (H3 : HC_X12_sum rec.2.2.2.1 F L) (H4 : HC_X12_product rec.2.2.2.2.1 F L) (H5 : HC_X12_one rec.2.2.2.2.2 F L) (E : Ev) (h : Nat → Nat) (g : Nat → Option Nat) {μ : Mem} {r : (Mem × Int32)} (hf : f_X12_whole_b rec μ = some r) : Ct E yX12_whole cX12_whole 1 (some .boolean) (rmOf (F + 1) (L + 23)) (wM E h g μ) (wM E h g r.1) [.ref (h 0)] (some (.int r.2)) := by
  refine ct_start RX12 0 (by decide) rfl (Nat.le_of_ble_eq_true rfl) ?_
  intro p l e s m args below meth c A Q X hr hlk hQ
  have lab9 : ∀ (n : Nat) (μ : Mem), f_X12_whole_L9 rec n μ = some r → J p l e (rmOf (F + 1) (L + 23)) s m args below meth c E A 1 Q (wM E h g μ) [some (.ref (h 0))] 9 [] := by
    intro n
    induction n with
    | zero => intro μ hf; cases (show none = some r from hf)
    | succ n ih =>
      intro μ hf
      rw [f_X12_whole_L9] at hf
      refine j_aload_n X dX12_whole_9 rfl rfl ?_
      obtain ⟨q2, g_q2, hf⟩ := ob_t hf
      refine j_callV X [0, 1, 2, 3, 4, 5, 6, 7, 8, 9, 10, 11, 12, 13] 0 (c_X12_look E h g g_q2) (cut_wM_wM_c ..) rfl rfl (ws' := (wM E h g q2.1)) (cut_wM_wM_w ..) (wM_0 ..) rfl k_1021 k_1023 k_31 k_80 k_1024 (⟨rfl, rfl⟩) hdV_X12_look ⟨by dsimp only [rmOf]; omega, by dsimp only [rmOf]; omega⟩ rfl (Nat.le_of_ble_eq_true rfl) rfl dX12_whole_10 ?_
      refine j_bipush (v := (124 : Int32)) X dX12_whole_13 (by decide) ?_
      refine j_icmp_ne (tgt := 47) X dX12_whole_15 (by decide) (fun c_15 => ?_) (fun c_15 => ?_)
      · replace hf := (if_neg c_15).symm.trans hf
        refine j_iconst (v := (1 : Int32)) X dX12_whole_47 (by decide) ?_
        obtain rfl := Option.some.inj hf
        exact j_iret X hr hlk rfl dX12_whole_48 hQ
      · replace hf := (if_pos c_15).symm.trans hf
        refine j_aload_n X dX12_whole_18 rfl rfl ?_
        refine j_dup X dX12_whole_19 rfl ?_
        refine j_get (C := RX12) (T := TX12) (N := 21) X iX12 0 (wM_0 ..) rfl 5 (by decide) k_921 rfl rfl dX12_whole_20 ?_
        refine j_iconst (v := (1 : Int32)) X dX12_whole_23 (by decide) ?_
        refine j_iadd X dX12_whole_24 ?_
        obtain ⟨μ3, e_μ3, hf⟩ := bd_e hf
        refine j_put (C := RX12) (T := TX12) (N := 21) X iX12 0 (wM_0 ..) rfl 5 (by decide) k_921 rfl tyX12 tyX12_ok nmX12 rfl (ty := .int) (by decide +kernel) rfl rfl (Nat.le_of_ble_eq_true rfl) dX12_whole_25 (ws' := (wM E h g μ3)) (by rw [e_μ3]; exact wM_f0_5 ..) ?_
        refine j_aload_n X dX12_whole_28 rfl rfl ?_
        obtain ⟨q4, g_q4, hf⟩ := ob_t hf
        refine j_callV X [0, 1, 2, 3, 4, 5, 6, 7, 8, 9, 10, 11, 12, 13] 0 (H1 E h g _ _ g_q4) (cut_wM_wM_c ..) rfl rfl (ws' := (wM E h g q4.1)) (cut_wM_wM_w ..) (wM_0 ..) rfl k_1001 k_1003 k_26 k_80 k_1004 (⟨rfl, rfl⟩) hdV_X12_both ⟨by dsimp only [rmOf]; omega, by dsimp only [rmOf]; omega⟩ rfl (Nat.le_of_ble_eq_true rfl) rfl dX12_whole_29 ?_
        refine j_if_ne (tgt := 37) X dX12_whole_32 (by decide) (fun c_32 => ?_) (fun c_32 => ?_)
        · replace hf := (if_neg c_32).symm.trans hf
          refine j_aload_n X dX12_whole_37 rfl rfl ?_
          refine j_iconst (v := (3 : Int32)) X dX12_whole_38 (by decide) ?_
          refine j_bipush (v := (124 : Int32)) X dX12_whole_39 (by decide) ?_
          obtain ⟨q5, g_q5, hf⟩ := ob_t hf
          refine j_callV X [0, 1, 2, 3, 4, 5, 6, 7, 8, 9, 10, 11, 12, 13] 0 (c_X12_step1 E h g g_q5) (cut_wM_wM_c ..) rfl rfl (ws' := (wM E h g q5)) (cut_wM_wM_w ..) (wM_0 ..) rfl k_1029 k_1031 k_33 k_80 k_1032 (⟨rfl, rfl⟩) hdV_X12_step1 ⟨by dsimp only [rmOf]; omega, by dsimp only [rmOf]; omega⟩ rfl (Nat.le_of_ble_eq_true rfl) rfl dX12_whole_41 ?_
          refine j_goto (tgt := 9) X dX12_whole_44 (by decide) ?_
          refine j_keep [true] rfl ?_
          exact ih _ hf
        · replace hf := (if_pos c_32).symm.trans hf
          refine j_iconst (v := (0 : Int32)) X dX12_whole_35 (by decide) ?_
          obtain rfl := Option.some.inj hf
          exact j_iret X hr hlk rfl dX12_whole_36 hQ
  rw [f_X12_whole_b] at hf
  refine j_aload_n X dX12_whole_0 rfl rfl ?_
  obtain ⟨q1, g_q1, hf⟩ := ob_t hf
  refine j_callV X [0, 1, 2, 3, 4, 5, 6, 7, 8, 9, 10, 11, 12, 13] 0 (H1 E h g _ _ g_q1) (cut_wM_wM_c ..) rfl rfl (ws' := (wM E h g q1.1)) (cut_wM_wM_w ..) (wM_0 ..) rfl k_1001 k_1003 k_26 k_80 k_1004 (⟨rfl, rfl⟩) hdV_X12_both ⟨by dsimp only [rmOf]; omega, by dsimp only [rmOf]; omega⟩ rfl (Nat.le_of_ble_eq_true rfl) rfl dX12_whole_1 ?_
  refine j_if_ne (tgt := 9) X dX12_whole_4 (by decide) (fun c_4 => ?_) (fun c_4 => ?_)
  · replace hf := (if_neg c_4).symm.trans hf
    refine j_keep [true] rfl ?_
    exact lab9 _ _ hf
  · replace hf := (if_pos c_4).symm.trans hf
    refine j_iconst (v := (0 : Int32)) X dX12_whole_7 (by decide) ?_
    obtain rfl := Option.some.inj hf
    exact j_iret X hr hlk rfl dX12_whole_8 hQ
def f_X12_both_L9 (rec : RT_Mt) : Nat → Mem → Option (Mem × Int32)
  | 0, _ => none
  | n + 1, μ => (f_X12_look μ).bind fun q2 => ((if q2.2 = (38 : Int32) then bd (upA q2.1 0 (upd (q2.1 0) 5 ((q2.1 0 5) + (1 : Int32)))) fun μ3 => ((rec.2.2.1 μ3).bind fun q4 => ((if q4.2 = 0 then some (q4.1, (0 : Int32)) else (f_X12_step1 q4.1 (3 : Int32) (38 : Int32)).bind fun q5 => ((f_X12_both_L9 rec n) q5)))) else some (q2.1, (1 : Int32))))
def f_X12_both_b (rec : RT_Mt) (μ : Mem) : Option (Mem × Int32) := (rec.2.2.1 μ).bind fun q1 => ((if q1.2 = 0 then some (q1.1, (0 : Int32)) else f_X12_both_L9 rec fuel0 q1.1))
set_option maxHeartbeats 4000000 in
set_option maxRecDepth 20000 in
theorem c_X12_both_b (rec : RT_Mt) (F L : Nat) (H0 : HC_X12_whole rec.1 F L) (H1 : HC_X12_both rec.2.1 F L) (H2 : HC_X12_compared rec.2.2.1 F L) (H3 : HC_X12_sum rec.2.2.2.1 F L) (H4 : HC_X12_product rec.2.2.2.2.1 F L) (H5 : HC_X12_one rec.2.2.2.2.2 F L) (E : Ev) (h : Nat → Nat) (g : Nat → Option Nat) {μ : Mem} {r : (Mem × Int32)} (hf : f_X12_both_b rec μ = some r) : Ct E yX12_both cX12_both 1 (some .boolean) (rmOf (F + 1) (L + 23)) (wM E h g μ) (wM E h g r.1) [.ref (h 0)] (some (.int r.2)) := by
  refine ct_start RX12 0 (by decide) rfl (Nat.le_of_ble_eq_true rfl) ?_
  intro p l e s m args below meth c A Q X hr hlk hQ
  have lab9 : ∀ (n : Nat) (μ : Mem), f_X12_both_L9 rec n μ = some r → J p l e (rmOf (F + 1) (L + 23)) s m args below meth c E A 1 Q (wM E h g μ) [some (.ref (h 0))] 9 [] := by
    intro n
    induction n with
    | zero => intro μ hf; cases (show none = some r from hf)
    | succ n ih =>
      intro μ hf
      rw [f_X12_both_L9] at hf
      refine j_aload_n X dX12_both_9 rfl rfl ?_
      obtain ⟨q2, g_q2, hf⟩ := ob_t hf
      refine j_callV X [0, 1, 2, 3, 4, 5, 6, 7, 8, 9, 10, 11, 12, 13] 0 (c_X12_look E h g g_q2) (cut_wM_wM_c ..) rfl rfl (ws' := (wM E h g q2.1)) (cut_wM_wM_w ..) (wM_0 ..) rfl k_1021 k_1023 k_31 k_80 k_1024 (⟨rfl, rfl⟩) hdV_X12_look ⟨by dsimp only [rmOf]; omega, by dsimp only [rmOf]; omega⟩ rfl (Nat.le_of_ble_eq_true rfl) rfl dX12_both_10 ?_
      refine j_bipush (v := (38 : Int32)) X dX12_both_13 (by decide) ?_
      refine j_icmp_ne (tgt := 47) X dX12_both_15 (by decide) (fun c_15 => ?_) (fun c_15 => ?_)
      · replace hf := (if_neg c_15).symm.trans hf
        refine j_iconst (v := (1 : Int32)) X dX12_both_47 (by decide) ?_
        obtain rfl := Option.some.inj hf
        exact j_iret X hr hlk rfl dX12_both_48 hQ
      · replace hf := (if_pos c_15).symm.trans hf
        refine j_aload_n X dX12_both_18 rfl rfl ?_
        refine j_dup X dX12_both_19 rfl ?_
        refine j_get (C := RX12) (T := TX12) (N := 21) X iX12 0 (wM_0 ..) rfl 5 (by decide) k_921 rfl rfl dX12_both_20 ?_
        refine j_iconst (v := (1 : Int32)) X dX12_both_23 (by decide) ?_
        refine j_iadd X dX12_both_24 ?_
        obtain ⟨μ3, e_μ3, hf⟩ := bd_e hf
        refine j_put (C := RX12) (T := TX12) (N := 21) X iX12 0 (wM_0 ..) rfl 5 (by decide) k_921 rfl tyX12 tyX12_ok nmX12 rfl (ty := .int) (by decide +kernel) rfl rfl (Nat.le_of_ble_eq_true rfl) dX12_both_25 (ws' := (wM E h g μ3)) (by rw [e_μ3]; exact wM_f0_5 ..) ?_
        refine j_aload_n X dX12_both_28 rfl rfl ?_
        obtain ⟨q4, g_q4, hf⟩ := ob_t hf
        refine j_callV X [0, 1, 2, 3, 4, 5, 6, 7, 8, 9, 10, 11, 12, 13] 0 (H2 E h g _ _ g_q4) (cut_wM_wM_c ..) rfl rfl (ws' := (wM E h g q4.1)) (cut_wM_wM_w ..) (wM_0 ..) rfl k_1005 k_1007 k_27 k_80 k_1008 (⟨rfl, rfl⟩) hdV_X12_compared ⟨by dsimp only [rmOf]; omega, by dsimp only [rmOf]; omega⟩ rfl (Nat.le_of_ble_eq_true rfl) rfl dX12_both_29 ?_
        refine j_if_ne (tgt := 37) X dX12_both_32 (by decide) (fun c_32 => ?_) (fun c_32 => ?_)
        · replace hf := (if_neg c_32).symm.trans hf
          refine j_aload_n X dX12_both_37 rfl rfl ?_
          refine j_iconst (v := (3 : Int32)) X dX12_both_38 (by decide) ?_
          refine j_bipush (v := (38 : Int32)) X dX12_both_39 (by decide) ?_
          obtain ⟨q5, g_q5, hf⟩ := ob_t hf
          refine j_callV X [0, 1, 2, 3, 4, 5, 6, 7, 8, 9, 10, 11, 12, 13] 0 (c_X12_step1 E h g g_q5) (cut_wM_wM_c ..) rfl rfl (ws' := (wM E h g q5)) (cut_wM_wM_w ..) (wM_0 ..) rfl k_1029 k_1031 k_33 k_80 k_1032 (⟨rfl, rfl⟩) hdV_X12_step1 ⟨by dsimp only [rmOf]; omega, by dsimp only [rmOf]; omega⟩ rfl (Nat.le_of_ble_eq_true rfl) rfl dX12_both_41 ?_
          refine j_goto (tgt := 9) X dX12_both_44 (by decide) ?_
          refine j_keep [true] rfl ?_
          exact ih _ hf
        · replace hf := (if_pos c_32).symm.trans hf
          refine j_iconst (v := (0 : Int32)) X dX12_both_35 (by decide) ?_
          obtain rfl := Option.some.inj hf
          exact j_iret X hr hlk rfl dX12_both_36 hQ
  rw [f_X12_both_b] at hf
  refine j_aload_n X dX12_both_0 rfl rfl ?_
  obtain ⟨q1, g_q1, hf⟩ := ob_t hf
  refine j_callV X [0, 1, 2, 3, 4, 5, 6, 7, 8, 9, 10, 11, 12, 13] 0 (H2 E h g _ _ g_q1) (cut_wM_wM_c ..) rfl rfl (ws' := (wM E h g q1.1)) (cut_wM_wM_w ..) (wM_0 ..) rfl k_1005 k_1007 k_27 k_80 k_1008 (⟨rfl, rfl⟩) hdV_X12_compared ⟨by dsimp only [rmOf]; omega, by dsimp only [rmOf]; omega⟩ rfl (Nat.le_of_ble_eq_true rfl) rfl dX12_both_1 ?_
  refine j_if_ne (tgt := 9) X dX12_both_4 (by decide) (fun c_4 => ?_) (fun c_4 => ?_)
  · replace hf := (if_neg c_4).symm.trans hf
    refine j_keep [true] rfl ?_
    exact lab9 _ _ hf
  · replace hf := (if_pos c_4).symm.trans hf
    refine j_iconst (v := (0 : Int32)) X dX12_both_7 (by decide) ?_
    obtain rfl := Option.some.inj hf
    exact j_iret X hr hlk rfl dX12_both_8 hQ
def f_X12_compared_L34 (rec : RT_Mt) (μ : Mem) (x1 : Int32) : Option (Mem × Int32) := bd (upA μ 0 (upd (μ 0) 5 ((μ 0 5) + (1 : Int32)))) fun μ3 => ((rec.2.2.2.1 μ3).bind fun q4 => ((if q4.2 = 0 then some (q4.1, (0 : Int32)) else (f_X12_step1 q4.1 (3 : Int32) x1).bind fun q5 => (some (q5, (1 : Int32))))))
def f_X12_compared_b (rec : RT_Mt) (μ : Mem) : Option (Mem × Int32) := (rec.2.2.2.1 μ).bind fun q1 => ((if q1.2 = 0 then some (q1.1, (0 : Int32)) else (f_X12_look q1.1).bind fun q2 => ((if q2.2 = (60 : Int32) then f_X12_compared_L34 rec q2.1 q2.2 else (if q2.2 = (61 : Int32) then f_X12_compared_L34 rec q2.1 q2.2 else (if q2.2 = (62 : Int32) then f_X12_compared_L34 rec q2.1 q2.2 else some (q2.1, (1 : Int32))))))))
set_option maxHeartbeats 4000000 in
set_option maxRecDepth 20000 in
theorem c_X12_compared_b (rec : RT_Mt) (F L : Nat) (H0 : HC_X12_whole rec.1 F L) (H1 : HC_X12_both rec.2.1 F L) (H2 : HC_X12_compared rec.2.2.1 F L) (H3 : HC_X12_sum rec.2.2.2.1 F L) (H4 : HC_X12_product rec.2.2.2.2.1 F L) (H5 : HC_X12_one rec.2.2.2.2.2 F L) (E : Ev) (h : Nat → Nat) (g : Nat → Option Nat) {μ : Mem} {r : (Mem × Int32)} (hf : f_X12_compared_b rec μ = some r) : Ct E yX12_compared cX12_compared 2 (some .boolean) (rmOf (F + 1) (L + 23)) (wM E h g μ) (wM E h g r.1) [.ref (h 0)] (some (.int r.2)) := by
  refine ct_start RX12 1 (by decide) rfl (Nat.le_of_ble_eq_true rfl) ?_
  intro p l e s m args below meth c A Q X hr hlk hQ
  have lab34 : ∀ (μ : Mem) (x1 : Int32), f_X12_compared_L34 rec μ x1 = some r → J p l e (rmOf (F + 1) (L + 23)) s m args below meth c E A 2 Q (wM E h g μ) [some (.ref (h 0)), some (.int x1)] 34 [] := by
    intro  μ x1 hf
    rw [f_X12_compared_L34] at hf
    refine j_aload_n X dX12_compared_34 rfl rfl ?_
    refine j_dup X dX12_compared_35 rfl ?_
    refine j_get (C := RX12) (T := TX12) (N := 21) X iX12 0 (wM_0 ..) rfl 5 (by decide) k_921 rfl rfl dX12_compared_36 ?_
    refine j_iconst (v := (1 : Int32)) X dX12_compared_39 (by decide) ?_
    refine j_iadd X dX12_compared_40 ?_
    obtain ⟨μ3, e_μ3, hf⟩ := bd_e hf
    refine j_put (C := RX12) (T := TX12) (N := 21) X iX12 0 (wM_0 ..) rfl 5 (by decide) k_921 rfl tyX12 tyX12_ok nmX12 rfl (ty := .int) (by decide +kernel) rfl rfl (Nat.le_of_ble_eq_true rfl) dX12_compared_41 (ws' := (wM E h g μ3)) (by rw [e_μ3]; exact wM_f0_5 ..) ?_
    refine j_aload_n X dX12_compared_44 rfl rfl ?_
    obtain ⟨q4, g_q4, hf⟩ := ob_t hf
    refine j_callV X [0, 1, 2, 3, 4, 5, 6, 7, 8, 9, 10, 11, 12, 13] 0 (H3 E h g _ _ g_q4) (cut_wM_wM_c ..) rfl rfl (ws' := (wM E h g q4.1)) (cut_wM_wM_w ..) (wM_0 ..) rfl k_1009 k_1011 k_28 k_80 k_1012 (⟨rfl, rfl⟩) hdV_X12_sum ⟨by dsimp only [rmOf]; omega, by dsimp only [rmOf]; omega⟩ rfl (Nat.le_of_ble_eq_true rfl) rfl dX12_compared_45 ?_
    refine j_if_ne (tgt := 53) X dX12_compared_48 (by decide) (fun c_48 => ?_) (fun c_48 => ?_)
    · replace hf := (if_neg c_48).symm.trans hf
      refine j_aload_n X dX12_compared_53 rfl rfl ?_
      refine j_iconst (v := (3 : Int32)) X dX12_compared_54 (by decide) ?_
      refine j_iload_n X dX12_compared_55 rfl rfl ?_
      obtain ⟨q5, g_q5, hf⟩ := ob_t hf
      refine j_callV X [0, 1, 2, 3, 4, 5, 6, 7, 8, 9, 10, 11, 12, 13] 0 (c_X12_step1 E h g g_q5) (cut_wM_wM_c ..) rfl rfl (ws' := (wM E h g q5)) (cut_wM_wM_w ..) (wM_0 ..) rfl k_1029 k_1031 k_33 k_80 k_1032 (⟨rfl, rfl⟩) hdV_X12_step1 ⟨by dsimp only [rmOf]; omega, by dsimp only [rmOf]; omega⟩ rfl (Nat.le_of_ble_eq_true rfl) rfl dX12_compared_56 ?_
      refine j_iconst (v := (1 : Int32)) X dX12_compared_59 (by decide) ?_
      obtain rfl := Option.some.inj hf
      exact j_iret X hr hlk rfl dX12_compared_60 hQ
    · replace hf := (if_pos c_48).symm.trans hf
      refine j_iconst (v := (0 : Int32)) X dX12_compared_51 (by decide) ?_
      obtain rfl := Option.some.inj hf
      exact j_iret X hr hlk rfl dX12_compared_52 hQ
  rw [f_X12_compared_b] at hf
  refine j_aload_n X dX12_compared_0 rfl rfl ?_
  obtain ⟨q1, g_q1, hf⟩ := ob_t hf
  refine j_callV X [0, 1, 2, 3, 4, 5, 6, 7, 8, 9, 10, 11, 12, 13] 0 (H3 E h g _ _ g_q1) (cut_wM_wM_c ..) rfl rfl (ws' := (wM E h g q1.1)) (cut_wM_wM_w ..) (wM_0 ..) rfl k_1009 k_1011 k_28 k_80 k_1012 (⟨rfl, rfl⟩) hdV_X12_sum ⟨by dsimp only [rmOf]; omega, by dsimp only [rmOf]; omega⟩ rfl (Nat.le_of_ble_eq_true rfl) rfl dX12_compared_1 ?_
  refine j_if_ne (tgt := 9) X dX12_compared_4 (by decide) (fun c_4 => ?_) (fun c_4 => ?_)
  · replace hf := (if_neg c_4).symm.trans hf
    refine j_aload_n X dX12_compared_9 rfl rfl ?_
    obtain ⟨q2, g_q2, hf⟩ := ob_t hf
    refine j_callV X [0, 1, 2, 3, 4, 5, 6, 7, 8, 9, 10, 11, 12, 13] 0 (c_X12_look E h g g_q2) (cut_wM_wM_c ..) rfl rfl (ws' := (wM E h g q2.1)) (cut_wM_wM_w ..) (wM_0 ..) rfl k_1021 k_1023 k_31 k_80 k_1024 (⟨rfl, rfl⟩) hdV_X12_look ⟨by dsimp only [rmOf]; omega, by dsimp only [rmOf]; omega⟩ rfl (Nat.le_of_ble_eq_true rfl) rfl dX12_compared_10 ?_
    refine j_istore_n1 X dX12_compared_13 rfl (by decide) rfl ?_
    refine j_iload_n X dX12_compared_14 rfl rfl ?_
    refine j_bipush (v := (60 : Int32)) X dX12_compared_15 (by decide) ?_
    refine j_icmp_eq (tgt := 34) X dX12_compared_17 (by decide) (fun c_17 => ?_) (fun c_17 => ?_)
    · replace hf := (if_pos c_17).symm.trans hf
      refine j_keep [true, true] rfl ?_
      exact lab34 _ _ hf
    · replace hf := (if_neg c_17).symm.trans hf
      refine j_iload_n X dX12_compared_20 rfl rfl ?_
      refine j_bipush (v := (61 : Int32)) X dX12_compared_21 (by decide) ?_
      refine j_icmp_eq (tgt := 34) X dX12_compared_23 (by decide) (fun c_23 => ?_) (fun c_23 => ?_)
      · replace hf := (if_pos c_23).symm.trans hf
        refine j_keep [true, true] rfl ?_
        exact lab34 _ _ hf
      · replace hf := (if_neg c_23).symm.trans hf
        refine j_iload_n X dX12_compared_26 rfl rfl ?_
        refine j_bipush (v := (62 : Int32)) X dX12_compared_27 (by decide) ?_
        refine j_icmp_eq (tgt := 34) X dX12_compared_29 (by decide) (fun c_29 => ?_) (fun c_29 => ?_)
        · replace hf := (if_pos c_29).symm.trans hf
          refine j_keep [true, true] rfl ?_
          exact lab34 _ _ hf
        · replace hf := (if_neg c_29).symm.trans hf
          refine j_iconst (v := (1 : Int32)) X dX12_compared_32 (by decide) ?_
          obtain rfl := Option.some.inj hf
          exact j_iret X hr hlk rfl dX12_compared_33 hQ
  · replace hf := (if_pos c_4).symm.trans hf
    refine j_iconst (v := (0 : Int32)) X dX12_compared_7 (by decide) ?_
    obtain rfl := Option.some.inj hf
    exact j_iret X hr hlk rfl dX12_compared_8 hQ
def f_X12_sum_L27 (rec : RT_Mt) (K9 : Mem → Option (Mem × Int32)) (μ : Mem) : Option (Mem × Int32) := (f_X12_look μ).bind fun q3 => (bd (upA q3.1 0 (upd (q3.1 0) 5 ((q3.1 0 5) + (1 : Int32)))) fun μ4 => ((rec.2.2.2.2.1 μ4).bind fun q5 => ((if q5.2 = 0 then some (q5.1, (0 : Int32)) else (f_X12_step1 q5.1 (3 : Int32) q3.2).bind fun q6 => (K9 q6)))))
def f_X12_sum_L9 (rec : RT_Mt) : Nat → Mem → Option (Mem × Int32)
  | 0, _ => none
  | n + 1, μ => (f_X12_look μ).bind fun q2 => ((if q2.2 = (43 : Int32) then f_X12_sum_L27 rec (f_X12_sum_L9 rec n) q2.1 else (f_X12_look q2.1).bind fun q7 => ((if q7.2 = (45 : Int32) then f_X12_sum_L27 rec (f_X12_sum_L9 rec n) q7.1 else some (q7.1, (1 : Int32))))))
def f_X12_sum_b (rec : RT_Mt) (μ : Mem) : Option (Mem × Int32) := (rec.2.2.2.2.1 μ).bind fun q1 => ((if q1.2 = 0 then some (q1.1, (0 : Int32)) else f_X12_sum_L9 rec fuel0 q1.1))
set_option maxHeartbeats 4000000 in
set_option maxRecDepth 20000 in
theorem c_X12_sum_b (rec : RT_Mt) (F L : Nat) (H0 : HC_X12_whole rec.1 F L) (H1 : HC_X12_both rec.2.1 F L) (H2 : HC_X12_compared rec.2.2.1 F L) (H3 : HC_X12_sum rec.2.2.2.1 F L) (H4 : HC_X12_product rec.2.2.2.2.1 F L) (H5 : HC_X12_one rec.2.2.2.2.2 F L) (E : Ev) (h : Nat → Nat) (g : Nat → Option Nat) {μ : Mem} {r : (Mem × Int32)} (hf : f_X12_sum_b rec μ = some r) : Ct E yX12_sum cX12_sum 2 (some .boolean) (rmOf (F + 1) (L + 23)) (wM E h g μ) (wM E h g r.1) [.ref (h 0)] (some (.int r.2)) := by
  refine ct_start RX12 1 (by decide) rfl (Nat.le_of_ble_eq_true rfl) ?_
  intro p l e s m args below meth c A Q X hr hlk hQ
  have lab27 : ∀ (K9 : Mem → Option (Mem × Int32)) (hK9 : ∀ (μ : Mem), K9 μ = some r → J p l e (rmOf (F + 1) (L + 23)) s m args below meth c E A 2 Q (wM E h g μ) [some (.ref (h 0)), none] 9 []) (μ : Mem), f_X12_sum_L27 rec K9 μ = some r → J p l e (rmOf (F + 1) (L + 23)) s m args below meth c E A 2 Q (wM E h g μ) [some (.ref (h 0)), none] 27 [] := by
    intro K9 hK9 μ hf
    rw [f_X12_sum_L27] at hf
    refine j_aload_n X dX12_sum_27 rfl rfl ?_
    obtain ⟨q3, g_q3, hf⟩ := ob_t hf
    refine j_callV X [0, 1, 2, 3, 4, 5, 6, 7, 8, 9, 10, 11, 12, 13] 0 (c_X12_look E h g g_q3) (cut_wM_wM_c ..) rfl rfl (ws' := (wM E h g q3.1)) (cut_wM_wM_w ..) (wM_0 ..) rfl k_1021 k_1023 k_31 k_80 k_1024 (⟨rfl, rfl⟩) hdV_X12_look ⟨by dsimp only [rmOf]; omega, by dsimp only [rmOf]; omega⟩ rfl (Nat.le_of_ble_eq_true rfl) rfl dX12_sum_28 ?_
    refine j_istore_n1 X dX12_sum_31 rfl (by decide) rfl ?_
    refine j_aload_n X dX12_sum_32 rfl rfl ?_
    refine j_dup X dX12_sum_33 rfl ?_
    refine j_get (C := RX12) (T := TX12) (N := 21) X iX12 0 (wM_0 ..) rfl 5 (by decide) k_921 rfl rfl dX12_sum_34 ?_
    refine j_iconst (v := (1 : Int32)) X dX12_sum_37 (by decide) ?_
    refine j_iadd X dX12_sum_38 ?_
    obtain ⟨μ4, e_μ4, hf⟩ := bd_e hf
    refine j_put (C := RX12) (T := TX12) (N := 21) X iX12 0 (wM_0 ..) rfl 5 (by decide) k_921 rfl tyX12 tyX12_ok nmX12 rfl (ty := .int) (by decide +kernel) rfl rfl (Nat.le_of_ble_eq_true rfl) dX12_sum_39 (ws' := (wM E h g μ4)) (by rw [e_μ4]; exact wM_f0_5 ..) ?_
    refine j_aload_n X dX12_sum_42 rfl rfl ?_
    obtain ⟨q5, g_q5, hf⟩ := ob_t hf
    refine j_callV X [0, 1, 2, 3, 4, 5, 6, 7, 8, 9, 10, 11, 12, 13] 0 (H4 E h g _ _ g_q5) (cut_wM_wM_c ..) rfl rfl (ws' := (wM E h g q5.1)) (cut_wM_wM_w ..) (wM_0 ..) rfl k_1013 k_1015 k_29 k_80 k_1016 (⟨rfl, rfl⟩) hdV_X12_product ⟨by dsimp only [rmOf]; omega, by dsimp only [rmOf]; omega⟩ rfl (Nat.le_of_ble_eq_true rfl) rfl dX12_sum_43 ?_
    refine j_if_ne (tgt := 51) X dX12_sum_46 (by decide) (fun c_46 => ?_) (fun c_46 => ?_)
    · replace hf := (if_neg c_46).symm.trans hf
      refine j_aload_n X dX12_sum_51 rfl rfl ?_
      refine j_iconst (v := (3 : Int32)) X dX12_sum_52 (by decide) ?_
      refine j_iload_n X dX12_sum_53 rfl rfl ?_
      obtain ⟨q6, g_q6, hf⟩ := ob_t hf
      refine j_callV X [0, 1, 2, 3, 4, 5, 6, 7, 8, 9, 10, 11, 12, 13] 0 (c_X12_step1 E h g g_q6) (cut_wM_wM_c ..) rfl rfl (ws' := (wM E h g q6)) (cut_wM_wM_w ..) (wM_0 ..) rfl k_1029 k_1031 k_33 k_80 k_1032 (⟨rfl, rfl⟩) hdV_X12_step1 ⟨by dsimp only [rmOf]; omega, by dsimp only [rmOf]; omega⟩ rfl (Nat.le_of_ble_eq_true rfl) rfl dX12_sum_54 ?_
      refine j_goto (tgt := 9) X dX12_sum_57 (by decide) ?_
      refine j_keep [true, false] rfl ?_
      exact hK9 _ hf
    · replace hf := (if_pos c_46).symm.trans hf
      refine j_iconst (v := (0 : Int32)) X dX12_sum_49 (by decide) ?_
      obtain rfl := Option.some.inj hf
      exact j_iret X hr hlk rfl dX12_sum_50 hQ
  have lab9 : ∀ (n : Nat) (μ : Mem), f_X12_sum_L9 rec n μ = some r → J p l e (rmOf (F + 1) (L + 23)) s m args below meth c E A 2 Q (wM E h g μ) [some (.ref (h 0)), none] 9 [] := by
    intro n
    induction n with
    | zero => intro μ hf; cases (show none = some r from hf)
    | succ n ih =>
      intro μ hf
      rw [f_X12_sum_L9] at hf
      refine j_aload_n X dX12_sum_9 rfl rfl ?_
      obtain ⟨q2, g_q2, hf⟩ := ob_t hf
      refine j_callV X [0, 1, 2, 3, 4, 5, 6, 7, 8, 9, 10, 11, 12, 13] 0 (c_X12_look E h g g_q2) (cut_wM_wM_c ..) rfl rfl (ws' := (wM E h g q2.1)) (cut_wM_wM_w ..) (wM_0 ..) rfl k_1021 k_1023 k_31 k_80 k_1024 (⟨rfl, rfl⟩) hdV_X12_look ⟨by dsimp only [rmOf]; omega, by dsimp only [rmOf]; omega⟩ rfl (Nat.le_of_ble_eq_true rfl) rfl dX12_sum_10 ?_
      refine j_bipush (v := (43 : Int32)) X dX12_sum_13 (by decide) ?_
      refine j_icmp_eq (tgt := 27) X dX12_sum_15 (by decide) (fun c_15 => ?_) (fun c_15 => ?_)
      · replace hf := (if_pos c_15).symm.trans hf
        refine j_keep [true, false] rfl ?_
        exact lab27 _ ih _ hf
      · replace hf := (if_neg c_15).symm.trans hf
        refine j_aload_n X dX12_sum_18 rfl rfl ?_
        obtain ⟨q7, g_q7, hf⟩ := ob_t hf
        refine j_callV X [0, 1, 2, 3, 4, 5, 6, 7, 8, 9, 10, 11, 12, 13] 0 (c_X12_look E h g g_q7) (cut_wM_wM_c ..) rfl rfl (ws' := (wM E h g q7.1)) (cut_wM_wM_w ..) (wM_0 ..) rfl k_1021 k_1023 k_31 k_80 k_1024 (⟨rfl, rfl⟩) hdV_X12_look ⟨by dsimp only [rmOf]; omega, by dsimp only [rmOf]; omega⟩ rfl (Nat.le_of_ble_eq_true rfl) rfl dX12_sum_19 ?_
        refine j_bipush (v := (45 : Int32)) X dX12_sum_22 (by decide) ?_
        refine j_icmp_ne (tgt := 60) X dX12_sum_24 (by decide) (fun c_24 => ?_) (fun c_24 => ?_)
        · replace hf := (if_neg c_24).symm.trans hf
          refine j_iconst (v := (1 : Int32)) X dX12_sum_60 (by decide) ?_
          obtain rfl := Option.some.inj hf
          exact j_iret X hr hlk rfl dX12_sum_61 hQ
        · replace hf := (if_pos c_24).symm.trans hf
          refine j_keep [true, false] rfl ?_
          exact lab27 _ ih _ hf
  rw [f_X12_sum_b] at hf
  refine j_aload_n X dX12_sum_0 rfl rfl ?_
  obtain ⟨q1, g_q1, hf⟩ := ob_t hf
  refine j_callV X [0, 1, 2, 3, 4, 5, 6, 7, 8, 9, 10, 11, 12, 13] 0 (H4 E h g _ _ g_q1) (cut_wM_wM_c ..) rfl rfl (ws' := (wM E h g q1.1)) (cut_wM_wM_w ..) (wM_0 ..) rfl k_1013 k_1015 k_29 k_80 k_1016 (⟨rfl, rfl⟩) hdV_X12_product ⟨by dsimp only [rmOf]; omega, by dsimp only [rmOf]; omega⟩ rfl (Nat.le_of_ble_eq_true rfl) rfl dX12_sum_1 ?_
  refine j_if_ne (tgt := 9) X dX12_sum_4 (by decide) (fun c_4 => ?_) (fun c_4 => ?_)
  · replace hf := (if_neg c_4).symm.trans hf
    refine j_keep [true, false] rfl ?_
    exact lab9 _ _ hf
  · replace hf := (if_pos c_4).symm.trans hf
    refine j_iconst (v := (0 : Int32)) X dX12_sum_7 (by decide) ?_
    obtain rfl := Option.some.inj hf
    exact j_iret X hr hlk rfl dX12_sum_8 hQ
def f_X12_product_L36 (rec : RT_Mt) (K9 : Mem → Option (Mem × Int32)) (μ : Mem) : Option (Mem × Int32) := (f_X12_look μ).bind fun q3 => (bd (upA q3.1 0 (upd (q3.1 0) 5 ((q3.1 0 5) + (1 : Int32)))) fun μ4 => ((rec.2.2.2.2.2 μ4).bind fun q5 => ((if q5.2 = 0 then some (q5.1, (0 : Int32)) else (f_X12_step1 q5.1 (3 : Int32) q3.2).bind fun q6 => (K9 q6)))))
def f_X12_product_L9 (rec : RT_Mt) : Nat → Mem → Option (Mem × Int32)
  | 0, _ => none
  | n + 1, μ => (f_X12_look μ).bind fun q2 => ((if q2.2 = (42 : Int32) then f_X12_product_L36 rec (f_X12_product_L9 rec n) q2.1 else (f_X12_look q2.1).bind fun q7 => ((if q7.2 = (47 : Int32) then f_X12_product_L36 rec (f_X12_product_L9 rec n) q7.1 else (f_X12_look q7.1).bind fun q8 => ((if q8.2 = (37 : Int32) then f_X12_product_L36 rec (f_X12_product_L9 rec n) q8.1 else some (q8.1, (1 : Int32))))))))
def f_X12_product_b (rec : RT_Mt) (μ : Mem) : Option (Mem × Int32) := (rec.2.2.2.2.2 μ).bind fun q1 => ((if q1.2 = 0 then some (q1.1, (0 : Int32)) else f_X12_product_L9 rec fuel0 q1.1))
set_option maxHeartbeats 4000000 in
set_option maxRecDepth 20000 in
theorem c_X12_product_b (rec : RT_Mt) (F L : Nat) (H0 : HC_X12_whole rec.1 F L) (H1 : HC_X12_both rec.2.1 F L) (H2 : HC_X12_compared rec.2.2.1 F L) (H3 : HC_X12_sum rec.2.2.2.1 F L) (H4 : HC_X12_product rec.2.2.2.2.1 F L) (H5 : HC_X12_one rec.2.2.2.2.2 F L) (E : Ev) (h : Nat → Nat) (g : Nat → Option Nat) {μ : Mem} {r : (Mem × Int32)} (hf : f_X12_product_b rec μ = some r) : Ct E yX12_product cX12_product 2 (some .boolean) (rmOf (F + 1) (L + 23)) (wM E h g μ) (wM E h g r.1) [.ref (h 0)] (some (.int r.2)) := by
  refine ct_start RX12 1 (by decide) rfl (Nat.le_of_ble_eq_true rfl) ?_
  intro p l e s m args below meth c A Q X hr hlk hQ
  have lab36 : ∀ (K9 : Mem → Option (Mem × Int32)) (hK9 : ∀ (μ : Mem), K9 μ = some r → J p l e (rmOf (F + 1) (L + 23)) s m args below meth c E A 2 Q (wM E h g μ) [some (.ref (h 0)), none] 9 []) (μ : Mem), f_X12_product_L36 rec K9 μ = some r → J p l e (rmOf (F + 1) (L + 23)) s m args below meth c E A 2 Q (wM E h g μ) [some (.ref (h 0)), none] 36 [] := by
    intro K9 hK9 μ hf
    rw [f_X12_product_L36] at hf
    refine j_aload_n X dX12_product_36 rfl rfl ?_
    obtain ⟨q3, g_q3, hf⟩ := ob_t hf
    refine j_callV X [0, 1, 2, 3, 4, 5, 6, 7, 8, 9, 10, 11, 12, 13] 0 (c_X12_look E h g g_q3) (cut_wM_wM_c ..) rfl rfl (ws' := (wM E h g q3.1)) (cut_wM_wM_w ..) (wM_0 ..) rfl k_1021 k_1023 k_31 k_80 k_1024 (⟨rfl, rfl⟩) hdV_X12_look ⟨by dsimp only [rmOf]; omega, by dsimp only [rmOf]; omega⟩ rfl (Nat.le_of_ble_eq_true rfl) rfl dX12_product_37 ?_
    refine j_istore_n1 X dX12_product_40 rfl (by decide) rfl ?_
    refine j_aload_n X dX12_product_41 rfl rfl ?_
    refine j_dup X dX12_product_42 rfl ?_
    refine j_get (C := RX12) (T := TX12) (N := 21) X iX12 0 (wM_0 ..) rfl 5 (by decide) k_921 rfl rfl dX12_product_43 ?_
    refine j_iconst (v := (1 : Int32)) X dX12_product_46 (by decide) ?_
    refine j_iadd X dX12_product_47 ?_
    obtain ⟨μ4, e_μ4, hf⟩ := bd_e hf
    refine j_put (C := RX12) (T := TX12) (N := 21) X iX12 0 (wM_0 ..) rfl 5 (by decide) k_921 rfl tyX12 tyX12_ok nmX12 rfl (ty := .int) (by decide +kernel) rfl rfl (Nat.le_of_ble_eq_true rfl) dX12_product_48 (ws' := (wM E h g μ4)) (by rw [e_μ4]; exact wM_f0_5 ..) ?_
    refine j_aload_n X dX12_product_51 rfl rfl ?_
    obtain ⟨q5, g_q5, hf⟩ := ob_t hf
    refine j_callV X [0, 1, 2, 3, 4, 5, 6, 7, 8, 9, 10, 11, 12, 13] 0 (H5 E h g _ _ g_q5) (cut_wM_wM_c ..) rfl rfl (ws' := (wM E h g q5.1)) (cut_wM_wM_w ..) (wM_0 ..) rfl k_1017 k_1019 k_30 k_80 k_1020 (⟨rfl, rfl⟩) hdV_X12_one ⟨by dsimp only [rmOf]; omega, by dsimp only [rmOf]; omega⟩ rfl (Nat.le_of_ble_eq_true rfl) rfl dX12_product_52 ?_
    refine j_if_ne (tgt := 60) X dX12_product_55 (by decide) (fun c_55 => ?_) (fun c_55 => ?_)
    · replace hf := (if_neg c_55).symm.trans hf
      refine j_aload_n X dX12_product_60 rfl rfl ?_
      refine j_iconst (v := (3 : Int32)) X dX12_product_61 (by decide) ?_
      refine j_iload_n X dX12_product_62 rfl rfl ?_
      obtain ⟨q6, g_q6, hf⟩ := ob_t hf
      refine j_callV X [0, 1, 2, 3, 4, 5, 6, 7, 8, 9, 10, 11, 12, 13] 0 (c_X12_step1 E h g g_q6) (cut_wM_wM_c ..) rfl rfl (ws' := (wM E h g q6)) (cut_wM_wM_w ..) (wM_0 ..) rfl k_1029 k_1031 k_33 k_80 k_1032 (⟨rfl, rfl⟩) hdV_X12_step1 ⟨by dsimp only [rmOf]; omega, by dsimp only [rmOf]; omega⟩ rfl (Nat.le_of_ble_eq_true rfl) rfl dX12_product_63 ?_
      refine j_goto (tgt := 9) X dX12_product_66 (by decide) ?_
      refine j_keep [true, false] rfl ?_
      exact hK9 _ hf
    · replace hf := (if_pos c_55).symm.trans hf
      refine j_iconst (v := (0 : Int32)) X dX12_product_58 (by decide) ?_
      obtain rfl := Option.some.inj hf
      exact j_iret X hr hlk rfl dX12_product_59 hQ
  have lab9 : ∀ (n : Nat) (μ : Mem), f_X12_product_L9 rec n μ = some r → J p l e (rmOf (F + 1) (L + 23)) s m args below meth c E A 2 Q (wM E h g μ) [some (.ref (h 0)), none] 9 [] := by
    intro n
    induction n with
    | zero => intro μ hf; cases (show none = some r from hf)
    | succ n ih =>
      intro μ hf
      rw [f_X12_product_L9] at hf
      refine j_aload_n X dX12_product_9 rfl rfl ?_
      obtain ⟨q2, g_q2, hf⟩ := ob_t hf
      refine j_callV X [0, 1, 2, 3, 4, 5, 6, 7, 8, 9, 10, 11, 12, 13] 0 (c_X12_look E h g g_q2) (cut_wM_wM_c ..) rfl rfl (ws' := (wM E h g q2.1)) (cut_wM_wM_w ..) (wM_0 ..) rfl k_1021 k_1023 k_31 k_80 k_1024 (⟨rfl, rfl⟩) hdV_X12_look ⟨by dsimp only [rmOf]; omega, by dsimp only [rmOf]; omega⟩ rfl (Nat.le_of_ble_eq_true rfl) rfl dX12_product_10 ?_
      refine j_bipush (v := (42 : Int32)) X dX12_product_13 (by decide) ?_
      refine j_icmp_eq (tgt := 36) X dX12_product_15 (by decide) (fun c_15 => ?_) (fun c_15 => ?_)
      · replace hf := (if_pos c_15).symm.trans hf
        refine j_keep [true, false] rfl ?_
        exact lab36 _ ih _ hf
      · replace hf := (if_neg c_15).symm.trans hf
        refine j_aload_n X dX12_product_18 rfl rfl ?_
        obtain ⟨q7, g_q7, hf⟩ := ob_t hf
        refine j_callV X [0, 1, 2, 3, 4, 5, 6, 7, 8, 9, 10, 11, 12, 13] 0 (c_X12_look E h g g_q7) (cut_wM_wM_c ..) rfl rfl (ws' := (wM E h g q7.1)) (cut_wM_wM_w ..) (wM_0 ..) rfl k_1021 k_1023 k_31 k_80 k_1024 (⟨rfl, rfl⟩) hdV_X12_look ⟨by dsimp only [rmOf]; omega, by dsimp only [rmOf]; omega⟩ rfl (Nat.le_of_ble_eq_true rfl) rfl dX12_product_19 ?_
        refine j_bipush (v := (47 : Int32)) X dX12_product_22 (by decide) ?_
        refine j_icmp_eq (tgt := 36) X dX12_product_24 (by decide) (fun c_24 => ?_) (fun c_24 => ?_)
        · replace hf := (if_pos c_24).symm.trans hf
          refine j_keep [true, false] rfl ?_
          exact lab36 _ ih _ hf
        · replace hf := (if_neg c_24).symm.trans hf
          refine j_aload_n X dX12_product_27 rfl rfl ?_
          obtain ⟨q8, g_q8, hf⟩ := ob_t hf
          refine j_callV X [0, 1, 2, 3, 4, 5, 6, 7, 8, 9, 10, 11, 12, 13] 0 (c_X12_look E h g g_q8) (cut_wM_wM_c ..) rfl rfl (ws' := (wM E h g q8.1)) (cut_wM_wM_w ..) (wM_0 ..) rfl k_1021 k_1023 k_31 k_80 k_1024 (⟨rfl, rfl⟩) hdV_X12_look ⟨by dsimp only [rmOf]; omega, by dsimp only [rmOf]; omega⟩ rfl (Nat.le_of_ble_eq_true rfl) rfl dX12_product_28 ?_
          refine j_bipush (v := (37 : Int32)) X dX12_product_31 (by decide) ?_
          refine j_icmp_ne (tgt := 69) X dX12_product_33 (by decide) (fun c_33 => ?_) (fun c_33 => ?_)
          · replace hf := (if_neg c_33).symm.trans hf
            refine j_iconst (v := (1 : Int32)) X dX12_product_69 (by decide) ?_
            obtain rfl := Option.some.inj hf
            exact j_iret X hr hlk rfl dX12_product_70 hQ
          · replace hf := (if_pos c_33).symm.trans hf
            refine j_keep [true, false] rfl ?_
            exact lab36 _ ih _ hf
  rw [f_X12_product_b] at hf
  refine j_aload_n X dX12_product_0 rfl rfl ?_
  obtain ⟨q1, g_q1, hf⟩ := ob_t hf
  refine j_callV X [0, 1, 2, 3, 4, 5, 6, 7, 8, 9, 10, 11, 12, 13] 0 (H5 E h g _ _ g_q1) (cut_wM_wM_c ..) rfl rfl (ws' := (wM E h g q1.1)) (cut_wM_wM_w ..) (wM_0 ..) rfl k_1017 k_1019 k_30 k_80 k_1020 (⟨rfl, rfl⟩) hdV_X12_one ⟨by dsimp only [rmOf]; omega, by dsimp only [rmOf]; omega⟩ rfl (Nat.le_of_ble_eq_true rfl) rfl dX12_product_1 ?_
  refine j_if_ne (tgt := 9) X dX12_product_4 (by decide) (fun c_4 => ?_) (fun c_4 => ?_)
  · replace hf := (if_neg c_4).symm.trans hf
    refine j_keep [true, false] rfl ?_
    exact lab9 _ _ hf
  · replace hf := (if_pos c_4).symm.trans hf
    refine j_iconst (v := (0 : Int32)) X dX12_product_7 (by decide) ?_
    obtain rfl := Option.some.inj hf
    exact j_iret X hr hlk rfl dX12_product_8 hQ
def f_X12_one_L46 (rec : RT_Mt) : Nat → Mem → Int32 → Int32 → Option (Mem × Int32)
  | 0, _, _, _ => none
  | n + 1, μ, x2, x3 => (if (4 : Int32) ≤ x3 then (f_X12_step1 μ (0 : Int32) x2).bind fun q13 => (some (q13, (1 : Int32))) else (f_X12_look μ).bind fun q14 => ((f_X12_in q14.2 (48 : Int32) (57 : Int32)).bind fun q15 => ((if q15 = 0 then (f_X12_step1 q14.1 (0 : Int32) x2).bind fun q16 => (some (q16, (1 : Int32))) else (f_X12_look q14.1).bind fun q17 => (bd ((((10 : Int32) * x2) + q17.2) - (48 : Int32)) fun y18 => (bd (upA q17.1 0 (upd (q17.1 0) 5 ((q17.1 0 5) + (1 : Int32)))) fun μ19 => ((f_X12_one_L46 rec n) μ19 y18 (x3 + (1 : Int32)))))))))
def f_X12_one_b (rec : RT_Mt) (μ : Mem) : Option (Mem × Int32) := (f_X12_look μ).bind fun q1 => ((f_X12_isName q1.1 q1.2).bind fun q2 => ((if q2.2 = 0 then (f_X12_in q1.2 (48 : Int32) (57 : Int32)).bind fun q3 => ((if q3 = 0 then (if q1.2 = (33 : Int32) then (f_X12_opens q2.1).bind fun q9 => ((if q9.2 = 0 then some (q9.1, (0 : Int32)) else (rec.2.2.2.2.2 q9.1).bind fun q10 => ((if q10.2 = 0 then some (q10.1, (0 : Int32)) else bd (upA q10.1 0 (upd (q10.1 0) 6 ((q10.1 0 6) - (1 : Int32)))) fun μ11 => ((f_X12_step1 μ11 (2 : Int32) (0 : Int32)).bind fun q12 => (some (q12, (1 : Int32)))))))) else (if q1.2 = (40 : Int32) then (f_X12_opens q2.1).bind fun q4 => ((if q4.2 = 0 then some (q4.1, (0 : Int32)) else (rec.1 q4.1).bind fun q5 => ((if q5.2 = 0 then some (q5.1, (0 : Int32)) else (f_X12_look q5.1).bind fun q6 => ((if q6.2 = (41 : Int32) then bd (upA q6.1 0 (upd (q6.1 0) 5 ((q6.1 0 5) + (1 : Int32)))) fun μ7 => (bd (upA μ7 0 (upd (μ7 0) 6 ((μ7 0 6) - (1 : Int32)))) fun μ8 => (some (μ8, (1 : Int32)))) else some (q6.1, (0 : Int32)))))))) else some (q2.1, (0 : Int32)))) else f_X12_one_L46 rec fuel0 q2.1 (0 : Int32) (0 : Int32))) else bd (upA q2.1 0 (upd (q2.1 0) 5 ((q2.1 0 5) + (1 : Int32)))) fun μ20 => ((f_X12_step1 μ20 (1 : Int32) q1.2).bind fun q21 => (some (q21, (1 : Int32)))))))
set_option maxHeartbeats 4000000 in
set_option maxRecDepth 20000 in
theorem c_X12_one_b (rec : RT_Mt) (F L : Nat) (H0 : HC_X12_whole rec.1 F L) (H1 : HC_X12_both rec.2.1 F L) (H2 : HC_X12_compared rec.2.2.1 F L) (H3 : HC_X12_sum rec.2.2.2.1 F L) (H4 : HC_X12_product rec.2.2.2.2.1 F L) (H5 : HC_X12_one rec.2.2.2.2.2 F L) (E : Ev) (h : Nat → Nat) (g : Nat → Option Nat) {μ : Mem} {r : (Mem × Int32)} (hf : f_X12_one_b rec μ = some r) : Ct E yX12_one cX12_one 4 (some .boolean) (rmOf (F + 1) (L + 23)) (wM E h g μ) (wM E h g r.1) [.ref (h 0)] (some (.int r.2)) := by
  refine ct_start RX12 3 (by decide) rfl (Nat.le_of_ble_eq_true rfl) ?_
  intro p l e s m args below meth c A Q X hr hlk hQ
  have lab46 : ∀ (n : Nat) (μ : Mem) (x2 : Int32) (x3 : Int32), f_X12_one_L46 rec n μ x2 x3 = some r → J p l e (rmOf (F + 1) (L + 23)) s m args below meth c E A 4 Q (wM E h g μ) [some (.ref (h 0)), none, some (.int x2), some (.int x3)] 46 [] := by
    intro n
    induction n with
    | zero => intro μ x2 x3 hf; cases (show none = some r from hf)
    | succ n ih =>
      intro μ x2 x3 hf
      rw [f_X12_one_L46] at hf
      refine j_iload_n X dX12_one_46 rfl rfl ?_
      refine j_iconst (v := (4 : Int32)) X dX12_one_47 (by decide) ?_
      refine j_icmp_ge (tgt := 94) X dX12_one_48 (by decide) (fun c_48 => ?_) (fun c_48 => ?_)
      · replace hf := (if_pos c_48).symm.trans hf
        refine j_aload_n X dX12_one_94 rfl rfl ?_
        refine j_iconst (v := (0 : Int32)) X dX12_one_95 (by decide) ?_
        refine j_iload_n X dX12_one_96 rfl rfl ?_
        obtain ⟨q13, g_q13, hf⟩ := ob_t hf
        refine j_callV X [0, 1, 2, 3, 4, 5, 6, 7, 8, 9, 10, 11, 12, 13] 0 (c_X12_step1 E h g g_q13) (cut_wM_wM_c ..) rfl rfl (ws' := (wM E h g q13)) (cut_wM_wM_w ..) (wM_0 ..) rfl k_1029 k_1031 k_33 k_80 k_1032 (⟨rfl, rfl⟩) hdV_X12_step1 ⟨by dsimp only [rmOf]; omega, by dsimp only [rmOf]; omega⟩ rfl (Nat.le_of_ble_eq_true rfl) rfl dX12_one_97 ?_
        refine j_iconst (v := (1 : Int32)) X dX12_one_100 (by decide) ?_
        obtain rfl := Option.some.inj hf
        exact j_iret X hr hlk rfl dX12_one_101 hQ
      · replace hf := (if_neg c_48).symm.trans hf
        refine j_aload_n X dX12_one_51 rfl rfl ?_
        obtain ⟨q14, g_q14, hf⟩ := ob_t hf
        refine j_callV X [0, 1, 2, 3, 4, 5, 6, 7, 8, 9, 10, 11, 12, 13] 0 (c_X12_look E h g g_q14) (cut_wM_wM_c ..) rfl rfl (ws' := (wM E h g q14.1)) (cut_wM_wM_w ..) (wM_0 ..) rfl k_1021 k_1023 k_31 k_80 k_1024 (⟨rfl, rfl⟩) hdV_X12_look ⟨by dsimp only [rmOf]; omega, by dsimp only [rmOf]; omega⟩ rfl (Nat.le_of_ble_eq_true rfl) rfl dX12_one_52 ?_
        refine j_bipush (v := (48 : Int32)) X dX12_one_55 (by decide) ?_
        refine j_bipush (v := (57 : Int32)) X dX12_one_57 (by decide) ?_
        obtain ⟨q15, g_q15, hf⟩ := ob_t hf
        refine j_callS X [] (c_X12_in E g_q15) rfl rfl rfl (ws' := (wM E h g q14.1)) rfl k_984 k_985 k_80 k_986 (⟨rfl, rfl⟩) hdS_X12_in ⟨by dsimp only [rmOf]; omega, by dsimp only [rmOf]; omega⟩ rfl (Nat.le_of_ble_eq_true rfl) rfl dX12_one_59 ?_
        refine j_if_eq (tgt := 94) X dX12_one_62 (by decide) (fun c_62 => ?_) (fun c_62 => ?_)
        · replace hf := (if_pos c_62).symm.trans hf
          refine j_aload_n X dX12_one_94 rfl rfl ?_
          refine j_iconst (v := (0 : Int32)) X dX12_one_95 (by decide) ?_
          refine j_iload_n X dX12_one_96 rfl rfl ?_
          obtain ⟨q16, g_q16, hf⟩ := ob_t hf
          refine j_callV X [0, 1, 2, 3, 4, 5, 6, 7, 8, 9, 10, 11, 12, 13] 0 (c_X12_step1 E h g g_q16) (cut_wM_wM_c ..) rfl rfl (ws' := (wM E h g q16)) (cut_wM_wM_w ..) (wM_0 ..) rfl k_1029 k_1031 k_33 k_80 k_1032 (⟨rfl, rfl⟩) hdV_X12_step1 ⟨by dsimp only [rmOf]; omega, by dsimp only [rmOf]; omega⟩ rfl (Nat.le_of_ble_eq_true rfl) rfl dX12_one_97 ?_
          refine j_iconst (v := (1 : Int32)) X dX12_one_100 (by decide) ?_
          obtain rfl := Option.some.inj hf
          exact j_iret X hr hlk rfl dX12_one_101 hQ
        · replace hf := (if_neg c_62).symm.trans hf
          refine j_bipush (v := (10 : Int32)) X dX12_one_65 (by decide) ?_
          refine j_iload_n X dX12_one_67 rfl rfl ?_
          refine j_imul X dX12_one_68 ?_
          refine j_aload_n X dX12_one_69 rfl rfl ?_
          obtain ⟨q17, g_q17, hf⟩ := ob_t hf
          refine j_callV X [0, 1, 2, 3, 4, 5, 6, 7, 8, 9, 10, 11, 12, 13] 0 (c_X12_look E h g g_q17) (cut_wM_wM_c ..) rfl rfl (ws' := (wM E h g q17.1)) (cut_wM_wM_w ..) (wM_0 ..) rfl k_1021 k_1023 k_31 k_80 k_1024 (⟨rfl, rfl⟩) hdV_X12_look ⟨by dsimp only [rmOf]; omega, by dsimp only [rmOf]; omega⟩ rfl (Nat.le_of_ble_eq_true rfl) rfl dX12_one_70 ?_
          refine j_iadd X dX12_one_73 ?_
          refine j_bipush (v := (48 : Int32)) X dX12_one_74 (by decide) ?_
          refine j_isub X dX12_one_76 ?_
          obtain ⟨y18, e_y18, hf⟩ := bd_e hf
          refine j_top e_y18 ?_
          refine j_istore_n2 X dX12_one_77 rfl (by decide) rfl ?_
          refine j_aload_n X dX12_one_78 rfl rfl ?_
          refine j_dup X dX12_one_79 rfl ?_
          refine j_get (C := RX12) (T := TX12) (N := 21) X iX12 0 (wM_0 ..) rfl 5 (by decide) k_921 rfl rfl dX12_one_80 ?_
          refine j_iconst (v := (1 : Int32)) X dX12_one_83 (by decide) ?_
          refine j_iadd X dX12_one_84 ?_
          obtain ⟨μ19, e_μ19, hf⟩ := bd_e hf
          refine j_put (C := RX12) (T := TX12) (N := 21) X iX12 0 (wM_0 ..) rfl 5 (by decide) k_921 rfl tyX12 tyX12_ok nmX12 rfl (ty := .int) (by decide +kernel) rfl rfl (Nat.le_of_ble_eq_true rfl) dX12_one_85 (ws' := (wM E h g μ19)) (by rw [e_μ19]; exact wM_f0_5 ..) ?_
          refine j_iinc3 (k := (1 : Int32)) X dX12_one_88 (by decide) (by decide) rfl ?_
          refine j_goto (tgt := 46) X dX12_one_91 (by decide) ?_
          refine j_keep [true, false, true, true] rfl ?_
          exact ih _ _ _ hf
  rw [f_X12_one_b] at hf
  refine j_aload_n X dX12_one_0 rfl rfl ?_
  obtain ⟨q1, g_q1, hf⟩ := ob_t hf
  refine j_callV X [0, 1, 2, 3, 4, 5, 6, 7, 8, 9, 10, 11, 12, 13] 0 (c_X12_look E h g g_q1) (cut_wM_wM_c ..) rfl rfl (ws' := (wM E h g q1.1)) (cut_wM_wM_w ..) (wM_0 ..) rfl k_1021 k_1023 k_31 k_80 k_1024 (⟨rfl, rfl⟩) hdV_X12_look ⟨by dsimp only [rmOf]; omega, by dsimp only [rmOf]; omega⟩ rfl (Nat.le_of_ble_eq_true rfl) rfl dX12_one_1 ?_
  refine j_istore_n1 X dX12_one_4 rfl (by decide) rfl ?_
  refine j_aload_n X dX12_one_5 rfl rfl ?_
  refine j_iload_n X dX12_one_6 rfl rfl ?_
  obtain ⟨q2, g_q2, hf⟩ := ob_t hf
  refine j_callV X [0, 1, 2, 3, 4, 5, 6, 7, 8, 9, 10, 11, 12, 13] 0 (c_X12_isName E h g g_q2) (cut_wM_wM_c ..) rfl rfl (ws' := (wM E h g q2.1)) (cut_wM_wM_w ..) (wM_0 ..) rfl k_1025 k_1027 k_32 k_80 k_1028 (⟨rfl, rfl⟩) hdV_X12_isName ⟨by dsimp only [rmOf]; omega, by dsimp only [rmOf]; omega⟩ rfl (Nat.le_of_ble_eq_true rfl) rfl dX12_one_7 ?_
  refine j_if_eq (tgt := 31) X dX12_one_10 (by decide) (fun c_10 => ?_) (fun c_10 => ?_)
  · replace hf := (if_pos c_10).symm.trans hf
    refine j_iload_n X dX12_one_31 rfl rfl ?_
    refine j_bipush (v := (48 : Int32)) X dX12_one_32 (by decide) ?_
    refine j_bipush (v := (57 : Int32)) X dX12_one_34 (by decide) ?_
    obtain ⟨q3, g_q3, hf⟩ := ob_t hf
    refine j_callS X [] (c_X12_in E g_q3) rfl rfl rfl (ws' := (wM E h g q2.1)) rfl k_984 k_985 k_80 k_986 (⟨rfl, rfl⟩) hdS_X12_in ⟨by dsimp only [rmOf]; omega, by dsimp only [rmOf]; omega⟩ rfl (Nat.le_of_ble_eq_true rfl) rfl dX12_one_36 ?_
    refine j_if_eq (tgt := 102) X dX12_one_39 (by decide) (fun c_39 => ?_) (fun c_39 => ?_)
    · replace hf := (if_pos c_39).symm.trans hf
      refine j_iload_n X dX12_one_102 rfl rfl ?_
      refine j_bipush (v := (33 : Int32)) X dX12_one_103 (by decide) ?_
      refine j_icmp_ne (tgt := 142) X dX12_one_105 (by decide) (fun c_105 => ?_) (fun c_105 => ?_)
      · replace hf := (if_neg c_105).symm.trans hf
        refine j_iload_n X dX12_one_142 rfl rfl ?_
        refine j_bipush (v := (40 : Int32)) X dX12_one_143 (by decide) ?_
        refine j_icmp_ne (tgt := 171) X dX12_one_145 (by decide) (fun c_145 => ?_) (fun c_145 => ?_)
        · replace hf := (if_neg c_145).symm.trans hf
          refine j_iconst (v := (0 : Int32)) X dX12_one_171 (by decide) ?_
          obtain rfl := Option.some.inj hf
          exact j_iret X hr hlk rfl dX12_one_172 hQ
        · replace hf := (if_pos c_145).symm.trans hf
          refine j_aload_n X dX12_one_148 rfl rfl ?_
          obtain ⟨q4, g_q4, hf⟩ := ob_t hf
          refine j_callV X [0, 1, 2, 3, 4, 5, 6, 7, 8, 9, 10, 11, 12, 13] 0 (c_X12_opens E h g g_q4) (cut_wM_wM_c ..) rfl rfl (ws' := (wM E h g q4.1)) (cut_wM_wM_w ..) (wM_0 ..) rfl k_1033 k_1035 k_34 k_80 k_1036 (⟨rfl, rfl⟩) hdV_X12_opens ⟨by dsimp only [rmOf]; omega, by dsimp only [rmOf]; omega⟩ rfl (Nat.le_of_ble_eq_true rfl) rfl dX12_one_149 ?_
          refine j_if_eq (tgt := 171) X dX12_one_152 (by decide) (fun c_152 => ?_) (fun c_152 => ?_)
          · replace hf := (if_pos c_152).symm.trans hf
            refine j_iconst (v := (0 : Int32)) X dX12_one_171 (by decide) ?_
            obtain rfl := Option.some.inj hf
            exact j_iret X hr hlk rfl dX12_one_172 hQ
          · replace hf := (if_neg c_152).symm.trans hf
            refine j_aload_n X dX12_one_155 rfl rfl ?_
            obtain ⟨q5, g_q5, hf⟩ := ob_t hf
            refine j_callV X [0, 1, 2, 3, 4, 5, 6, 7, 8, 9, 10, 11, 12, 13] 0 (H0 E h g _ _ g_q5) (cut_wM_wM_c ..) rfl rfl (ws' := (wM E h g q5.1)) (cut_wM_wM_w ..) (wM_0 ..) rfl k_997 k_999 k_25 k_80 k_1000 (⟨rfl, rfl⟩) hdV_X12_whole ⟨by dsimp only [rmOf]; omega, by dsimp only [rmOf]; omega⟩ rfl (Nat.le_of_ble_eq_true rfl) rfl dX12_one_156 ?_
            refine j_if_eq (tgt := 171) X dX12_one_159 (by decide) (fun c_159 => ?_) (fun c_159 => ?_)
            · replace hf := (if_pos c_159).symm.trans hf
              refine j_iconst (v := (0 : Int32)) X dX12_one_171 (by decide) ?_
              obtain rfl := Option.some.inj hf
              exact j_iret X hr hlk rfl dX12_one_172 hQ
            · replace hf := (if_neg c_159).symm.trans hf
              refine j_aload_n X dX12_one_162 rfl rfl ?_
              obtain ⟨q6, g_q6, hf⟩ := ob_t hf
              refine j_callV X [0, 1, 2, 3, 4, 5, 6, 7, 8, 9, 10, 11, 12, 13] 0 (c_X12_look E h g g_q6) (cut_wM_wM_c ..) rfl rfl (ws' := (wM E h g q6.1)) (cut_wM_wM_w ..) (wM_0 ..) rfl k_1021 k_1023 k_31 k_80 k_1024 (⟨rfl, rfl⟩) hdV_X12_look ⟨by dsimp only [rmOf]; omega, by dsimp only [rmOf]; omega⟩ rfl (Nat.le_of_ble_eq_true rfl) rfl dX12_one_163 ?_
              refine j_bipush (v := (41 : Int32)) X dX12_one_166 (by decide) ?_
              refine j_icmp_eq (tgt := 173) X dX12_one_168 (by decide) (fun c_168 => ?_) (fun c_168 => ?_)
              · replace hf := (if_pos c_168).symm.trans hf
                refine j_aload_n X dX12_one_173 rfl rfl ?_
                refine j_dup X dX12_one_174 rfl ?_
                refine j_get (C := RX12) (T := TX12) (N := 21) X iX12 0 (wM_0 ..) rfl 5 (by decide) k_921 rfl rfl dX12_one_175 ?_
                refine j_iconst (v := (1 : Int32)) X dX12_one_178 (by decide) ?_
                refine j_iadd X dX12_one_179 ?_
                obtain ⟨μ7, e_μ7, hf⟩ := bd_e hf
                refine j_put (C := RX12) (T := TX12) (N := 21) X iX12 0 (wM_0 ..) rfl 5 (by decide) k_921 rfl tyX12 tyX12_ok nmX12 rfl (ty := .int) (by decide +kernel) rfl rfl (Nat.le_of_ble_eq_true rfl) dX12_one_180 (ws' := (wM E h g μ7)) (by rw [e_μ7]; exact wM_f0_5 ..) ?_
                refine j_aload_n X dX12_one_183 rfl rfl ?_
                refine j_dup X dX12_one_184 rfl ?_
                refine j_get (C := RX12) (T := TX12) (N := 21) X iX12 0 (wM_0 ..) rfl 6 (by decide) k_922 rfl rfl dX12_one_185 ?_
                refine j_iconst (v := (1 : Int32)) X dX12_one_188 (by decide) ?_
                refine j_isub X dX12_one_189 ?_
                obtain ⟨μ8, e_μ8, hf⟩ := bd_e hf
                refine j_put (C := RX12) (T := TX12) (N := 21) X iX12 0 (wM_0 ..) rfl 6 (by decide) k_922 rfl tyX12 tyX12_ok nmX12 rfl (ty := .int) (by decide +kernel) rfl rfl (Nat.le_of_ble_eq_true rfl) dX12_one_190 (ws' := (wM E h g μ8)) (by rw [e_μ8]; exact wM_f0_6 ..) ?_
                refine j_iconst (v := (1 : Int32)) X dX12_one_193 (by decide) ?_
                obtain rfl := Option.some.inj hf
                exact j_iret X hr hlk rfl dX12_one_194 hQ
              · replace hf := (if_neg c_168).symm.trans hf
                refine j_iconst (v := (0 : Int32)) X dX12_one_171 (by decide) ?_
                obtain rfl := Option.some.inj hf
                exact j_iret X hr hlk rfl dX12_one_172 hQ
      · replace hf := (if_pos c_105).symm.trans hf
        refine j_aload_n X dX12_one_108 rfl rfl ?_
        obtain ⟨q9, g_q9, hf⟩ := ob_t hf
        refine j_callV X [0, 1, 2, 3, 4, 5, 6, 7, 8, 9, 10, 11, 12, 13] 0 (c_X12_opens E h g g_q9) (cut_wM_wM_c ..) rfl rfl (ws' := (wM E h g q9.1)) (cut_wM_wM_w ..) (wM_0 ..) rfl k_1033 k_1035 k_34 k_80 k_1036 (⟨rfl, rfl⟩) hdV_X12_opens ⟨by dsimp only [rmOf]; omega, by dsimp only [rmOf]; omega⟩ rfl (Nat.le_of_ble_eq_true rfl) rfl dX12_one_109 ?_
        refine j_if_eq (tgt := 122) X dX12_one_112 (by decide) (fun c_112 => ?_) (fun c_112 => ?_)
        · replace hf := (if_pos c_112).symm.trans hf
          refine j_iconst (v := (0 : Int32)) X dX12_one_122 (by decide) ?_
          obtain rfl := Option.some.inj hf
          exact j_iret X hr hlk rfl dX12_one_123 hQ
        · replace hf := (if_neg c_112).symm.trans hf
          refine j_aload_n X dX12_one_115 rfl rfl ?_
          obtain ⟨q10, g_q10, hf⟩ := ob_t hf
          refine j_callV X [0, 1, 2, 3, 4, 5, 6, 7, 8, 9, 10, 11, 12, 13] 0 (H5 E h g _ _ g_q10) (cut_wM_wM_c ..) rfl rfl (ws' := (wM E h g q10.1)) (cut_wM_wM_w ..) (wM_0 ..) rfl k_1017 k_1019 k_30 k_80 k_1020 (⟨rfl, rfl⟩) hdV_X12_one ⟨by dsimp only [rmOf]; omega, by dsimp only [rmOf]; omega⟩ rfl (Nat.le_of_ble_eq_true rfl) rfl dX12_one_116 ?_
          refine j_if_ne (tgt := 124) X dX12_one_119 (by decide) (fun c_119 => ?_) (fun c_119 => ?_)
          · replace hf := (if_neg c_119).symm.trans hf
            refine j_aload_n X dX12_one_124 rfl rfl ?_
            refine j_dup X dX12_one_125 rfl ?_
            refine j_get (C := RX12) (T := TX12) (N := 21) X iX12 0 (wM_0 ..) rfl 6 (by decide) k_922 rfl rfl dX12_one_126 ?_
            refine j_iconst (v := (1 : Int32)) X dX12_one_129 (by decide) ?_
            refine j_isub X dX12_one_130 ?_
            obtain ⟨μ11, e_μ11, hf⟩ := bd_e hf
            refine j_put (C := RX12) (T := TX12) (N := 21) X iX12 0 (wM_0 ..) rfl 6 (by decide) k_922 rfl tyX12 tyX12_ok nmX12 rfl (ty := .int) (by decide +kernel) rfl rfl (Nat.le_of_ble_eq_true rfl) dX12_one_131 (ws' := (wM E h g μ11)) (by rw [e_μ11]; exact wM_f0_6 ..) ?_
            refine j_aload_n X dX12_one_134 rfl rfl ?_
            refine j_iconst (v := (2 : Int32)) X dX12_one_135 (by decide) ?_
            refine j_iconst (v := (0 : Int32)) X dX12_one_136 (by decide) ?_
            obtain ⟨q12, g_q12, hf⟩ := ob_t hf
            refine j_callV X [0, 1, 2, 3, 4, 5, 6, 7, 8, 9, 10, 11, 12, 13] 0 (c_X12_step1 E h g g_q12) (cut_wM_wM_c ..) rfl rfl (ws' := (wM E h g q12)) (cut_wM_wM_w ..) (wM_0 ..) rfl k_1029 k_1031 k_33 k_80 k_1032 (⟨rfl, rfl⟩) hdV_X12_step1 ⟨by dsimp only [rmOf]; omega, by dsimp only [rmOf]; omega⟩ rfl (Nat.le_of_ble_eq_true rfl) rfl dX12_one_137 ?_
            refine j_iconst (v := (1 : Int32)) X dX12_one_140 (by decide) ?_
            obtain rfl := Option.some.inj hf
            exact j_iret X hr hlk rfl dX12_one_141 hQ
          · replace hf := (if_pos c_119).symm.trans hf
            refine j_iconst (v := (0 : Int32)) X dX12_one_122 (by decide) ?_
            obtain rfl := Option.some.inj hf
            exact j_iret X hr hlk rfl dX12_one_123 hQ
    · replace hf := (if_neg c_39).symm.trans hf
      refine j_iconst (v := (0 : Int32)) X dX12_one_42 (by decide) ?_
      refine j_istore_n2 X dX12_one_43 rfl (by decide) rfl ?_
      refine j_iconst (v := (0 : Int32)) X dX12_one_44 (by decide) ?_
      refine j_istore_n3 X dX12_one_45 rfl (by decide) rfl ?_
      refine j_keep [true, false, true, true] rfl ?_
      exact lab46 _ _ _ _ hf
  · replace hf := (if_neg c_10).symm.trans hf
    refine j_aload_n X dX12_one_13 rfl rfl ?_
    refine j_dup X dX12_one_14 rfl ?_
    refine j_get (C := RX12) (T := TX12) (N := 21) X iX12 0 (wM_0 ..) rfl 5 (by decide) k_921 rfl rfl dX12_one_15 ?_
    refine j_iconst (v := (1 : Int32)) X dX12_one_18 (by decide) ?_
    refine j_iadd X dX12_one_19 ?_
    obtain ⟨μ20, e_μ20, hf⟩ := bd_e hf
    refine j_put (C := RX12) (T := TX12) (N := 21) X iX12 0 (wM_0 ..) rfl 5 (by decide) k_921 rfl tyX12 tyX12_ok nmX12 rfl (ty := .int) (by decide +kernel) rfl rfl (Nat.le_of_ble_eq_true rfl) dX12_one_20 (ws' := (wM E h g μ20)) (by rw [e_μ20]; exact wM_f0_5 ..) ?_
    refine j_aload_n X dX12_one_23 rfl rfl ?_
    refine j_iconst (v := (1 : Int32)) X dX12_one_24 (by decide) ?_
    refine j_iload_n X dX12_one_25 rfl rfl ?_
    obtain ⟨q21, g_q21, hf⟩ := ob_t hf
    refine j_callV X [0, 1, 2, 3, 4, 5, 6, 7, 8, 9, 10, 11, 12, 13] 0 (c_X12_step1 E h g g_q21) (cut_wM_wM_c ..) rfl rfl (ws' := (wM E h g q21)) (cut_wM_wM_w ..) (wM_0 ..) rfl k_1029 k_1031 k_33 k_80 k_1032 (⟨rfl, rfl⟩) hdV_X12_step1 ⟨by dsimp only [rmOf]; omega, by dsimp only [rmOf]; omega⟩ rfl (Nat.le_of_ble_eq_true rfl) rfl dX12_one_26 ?_
    refine j_iconst (v := (1 : Int32)) X dX12_one_29 (by decide) ?_
    obtain rfl := Option.some.inj hf
    exact j_iret X hr hlk rfl dX12_one_30 hQ
def rec_Mt : Nat → RT_Mt
  | 0 => (fun _ => none, fun _ => none, fun _ => none, fun _ => none, fun _ => none, fun _ => none)
  | d + 1 => (f_X12_whole_b (rec_Mt d), f_X12_both_b (rec_Mt d), f_X12_compared_b (rec_Mt d), f_X12_sum_b (rec_Mt d), f_X12_product_b (rec_Mt d), f_X12_one_b (rec_Mt d))
theorem rk_Mt : ∀ d : Nat, HC_X12_whole (rec_Mt d).1 (1 * d) (23 * d) ∧ HC_X12_both (rec_Mt d).2.1 (1 * d) (23 * d) ∧ HC_X12_compared (rec_Mt d).2.2.1 (1 * d) (23 * d) ∧ HC_X12_sum (rec_Mt d).2.2.2.1 (1 * d) (23 * d) ∧ HC_X12_product (rec_Mt d).2.2.2.2.1 (1 * d) (23 * d) ∧ HC_X12_one (rec_Mt d).2.2.2.2.2 (1 * d) (23 * d) := by
  intro d
  induction d with
  | zero => exact ⟨(fun E h g μ r hf => by cases (show none = some r from hf)), (fun E h g μ r hf => by cases (show none = some r from hf)), (fun E h g μ r hf => by cases (show none = some r from hf)), (fun E h g μ r hf => by cases (show none = some r from hf)), (fun E h g μ r hf => by cases (show none = some r from hf)), (fun E h g μ r hf => by cases (show none = some r from hf))⟩
  | succ d ih =>
    obtain ⟨H0, H1, H2, H3, H4, H5⟩ := ih
    exact ⟨fun E h g μ r hf => c_X12_whole_b (rec_Mt d) (1 * d) (23 * d) H0 H1 H2 H3 H4 H5 E h g hf, fun E h g μ r hf => c_X12_both_b (rec_Mt d) (1 * d) (23 * d) H0 H1 H2 H3 H4 H5 E h g hf, fun E h g μ r hf => c_X12_compared_b (rec_Mt d) (1 * d) (23 * d) H0 H1 H2 H3 H4 H5 E h g hf, fun E h g μ r hf => c_X12_sum_b (rec_Mt d) (1 * d) (23 * d) H0 H1 H2 H3 H4 H5 E h g hf, fun E h g μ r hf => c_X12_product_b (rec_Mt d) (1 * d) (23 * d) H0 H1 H2 H3 H4 H5 E h g hf, fun E h g μ r hf => c_X12_one_b (rec_Mt d) (1 * d) (23 * d) H0 H1 H2 H3 H4 H5 E h g hf⟩
def f_X12_whole (μ : Mem) : Option (Mem × Int32) := (rec_Mt 64).1 μ
theorem c_X12_whole (E : Ev) (h : Nat → Nat) (g : Nat → Option Nat) {μ : Mem} {r : (Mem × Int32)} (hf : f_X12_whole μ = some r) : Ct E yX12_whole cX12_whole 1 (some .boolean) (rmOf 64 1472) (wM E h g μ) (wM E h g r.1) [.ref (h 0)] (some (.int r.2)) := (rk_Mt 64).1 E h g _ _ hf
def f_X12_both (μ : Mem) : Option (Mem × Int32) := (rec_Mt 64).2.1 μ
theorem c_X12_both (E : Ev) (h : Nat → Nat) (g : Nat → Option Nat) {μ : Mem} {r : (Mem × Int32)} (hf : f_X12_both μ = some r) : Ct E yX12_both cX12_both 1 (some .boolean) (rmOf 64 1472) (wM E h g μ) (wM E h g r.1) [.ref (h 0)] (some (.int r.2)) := (rk_Mt 64).2.1 E h g _ _ hf
def f_X12_compared (μ : Mem) : Option (Mem × Int32) := (rec_Mt 64).2.2.1 μ
theorem c_X12_compared (E : Ev) (h : Nat → Nat) (g : Nat → Option Nat) {μ : Mem} {r : (Mem × Int32)} (hf : f_X12_compared μ = some r) : Ct E yX12_compared cX12_compared 2 (some .boolean) (rmOf 64 1472) (wM E h g μ) (wM E h g r.1) [.ref (h 0)] (some (.int r.2)) := (rk_Mt 64).2.2.1 E h g _ _ hf
def f_X12_sum (μ : Mem) : Option (Mem × Int32) := (rec_Mt 64).2.2.2.1 μ
theorem c_X12_sum (E : Ev) (h : Nat → Nat) (g : Nat → Option Nat) {μ : Mem} {r : (Mem × Int32)} (hf : f_X12_sum μ = some r) : Ct E yX12_sum cX12_sum 2 (some .boolean) (rmOf 64 1472) (wM E h g μ) (wM E h g r.1) [.ref (h 0)] (some (.int r.2)) := (rk_Mt 64).2.2.2.1 E h g _ _ hf
def f_X12_product (μ : Mem) : Option (Mem × Int32) := (rec_Mt 64).2.2.2.2.1 μ
theorem c_X12_product (E : Ev) (h : Nat → Nat) (g : Nat → Option Nat) {μ : Mem} {r : (Mem × Int32)} (hf : f_X12_product μ = some r) : Ct E yX12_product cX12_product 2 (some .boolean) (rmOf 64 1472) (wM E h g μ) (wM E h g r.1) [.ref (h 0)] (some (.int r.2)) := (rk_Mt 64).2.2.2.2.1 E h g _ _ hf
def f_X12_one (μ : Mem) : Option (Mem × Int32) := (rec_Mt 64).2.2.2.2.2 μ
theorem c_X12_one (E : Ev) (h : Nat → Nat) (g : Nat → Option Nat) {μ : Mem} {r : (Mem × Int32)} (hf : f_X12_one μ = some r) : Ct E yX12_one cX12_one 4 (some .boolean) (rmOf 64 1472) (wM E h g μ) (wM E h g r.1) [.ref (h 0)] (some (.int r.2)) := (rk_Mt 64).2.2.2.2.2 E h g _ _ hf
def f_X12_carry_L2 : Nat → Mem → Int32 → Option Mem
  | 0, _, _ => none
  | n + 1, μ, x2 => (if (387 : Int32) ≤ x2 then some μ else (if inb x2 387 = true then (if inb x2 387 = true then bd (upA μ 1 (upd (μ 1) x2.toNatClampNeg (μ 0 x2.toNatClampNeg))) fun μ3 => ((f_X12_carry_L2 n) μ3 (x2 + (1 : Int32))) else none) else none))
def f_X12_carry (μ : Mem) : Option Mem := f_X12_carry_L2 fuel0 μ (0 : Int32)
set_option maxHeartbeats 4000000 in
set_option maxRecDepth 20000 in
theorem c_X12_carry (E : Ev) (h : Nat → Nat) (g : Nat → Option Nat) {μ : Mem} {r : Mem} (hf : f_X12_carry μ = some r) : Ct E yX12_carry cX12_carry 3 none (rmOf 0 0) (wA2 E h g μ) (wA2 E h g r) [.ref (h 0), .ref (h 1)] none := by
  refine ct_start RX12 1 (by decide) rfl (Nat.le_of_ble_eq_true rfl) ?_
  intro p l e s m args below meth c A Q X hr hlk hQ
  have lab2 : ∀ (n : Nat) (μ : Mem) (x2 : Int32), f_X12_carry_L2 n μ x2 = some r → J p l e (rmOf 0 0) s m args below meth c E A 3 Q (wA2 E h g μ) [some (.ref (h 0)), some (.ref (h 1)), some (.int x2)] 2 [] := by
    intro n
    induction n with
    | zero => intro μ x2 hf; cases (show none = some r from hf)
    | succ n ih =>
      intro μ x2 hf
      rw [f_X12_carry_L2] at hf
      refine j_iload_n X dX12_carry_2 rfl rfl ?_
      refine j_sipush (v := (387 : Int32)) X dX12_carry_3 (by decide) ?_
      refine j_icmp_ge (tgt := 21) X dX12_carry_6 (by decide) (fun c_6 => ?_) (fun c_6 => ?_)
      · replace hf := (if_pos c_6).symm.trans hf
        obtain rfl := Option.some.inj hf
        exact j_vret X hr hlk dX12_carry_21 hQ
      · replace hf := (if_neg c_6).symm.trans hf
        refine j_aload_n X dX12_carry_9 rfl rfl ?_
        refine j_iload_n X dX12_carry_10 rfl rfl ?_
        refine j_aload_n X dX12_carry_11 rfl rfl ?_
        refine j_iload_n X dX12_carry_12 rfl rfl ?_
        obtain ⟨c1, hf⟩ := oi_in hf
        refine j_iald X 0 (wA2_0 ..) c1 dX12_carry_13 ?_
        obtain ⟨c2, hf⟩ := oi_in hf
        obtain ⟨μ3, e_μ3, hf⟩ := bd_e hf
        refine j_iast X 1 (wA2_1 ..) c2 dX12_carry_14 (ws' := (wA2 E h g μ3)) (by rw [e_μ3]; exact wA2_s1 ..) ?_
        refine j_iinc2 (k := (1 : Int32)) X dX12_carry_15 (by decide) (by decide) rfl ?_
        refine j_goto (tgt := 2) X dX12_carry_18 (by decide) ?_
        refine j_keep [true, true, true] rfl ?_
        exact ih _ _ hf
  rw [f_X12_carry] at hf
  refine j_iconst (v := (0 : Int32)) X dX12_carry_0 (by decide) ?_
  refine j_istore_n2 X dX12_carry_1 rfl (by decide) rfl ?_
  refine j_keep [true, true, true] rfl ?_
  exact lab2 _ _ _ hf
def f_X12_layDown_L2 : Nat → Mem → Int32 → Int32 → Option Mem
  | 0, _, _, _ => none
  | n + 1, μ, x1, x2 => (if (53 : Int32) ≤ x2 then some μ else (if inb x2 387 = true then (if inb (((53 : Int32) * x1) + x2) 106 = true then bd (upA μ 3 (upd (μ 3) (((53 : Int32) * x1) + x2).toNatClampNeg (μ 1 x2.toNatClampNeg))) fun μ3 => ((f_X12_layDown_L2 n) μ3 x1 (x2 + (1 : Int32))) else none) else none))
def f_X12_layDown (μ : Mem) (x1 : Int32) : Option Mem := f_X12_layDown_L2 fuel0 μ x1 (0 : Int32)
set_option maxHeartbeats 4000000 in
set_option maxRecDepth 20000 in
theorem c_X12_layDown (E : Ev) (h : Nat → Nat) (g : Nat → Option Nat) {μ : Mem} {x1 : Int32} {r : Mem} (hf : f_X12_layDown μ x1 = some r) : Ct E yX12_layDown cX12_layDown 3 none (rmOf 0 0) (wM E h g μ) (wM E h g r) [.ref (h 0), .int x1] none := by
  refine ct_start RX12 1 (by decide) rfl (Nat.le_of_ble_eq_true rfl) ?_
  intro p l e s m args below meth c A Q X hr hlk hQ
  have lab2 : ∀ (n : Nat) (μ : Mem) (x1 : Int32) (x2 : Int32), f_X12_layDown_L2 n μ x1 x2 = some r → J p l e (rmOf 0 0) s m args below meth c E A 3 Q (wM E h g μ) [some (.ref (h 0)), some (.int x1), some (.int x2)] 2 [] := by
    intro n
    induction n with
    | zero => intro μ x1 x2 hf; cases (show none = some r from hf)
    | succ n ih =>
      intro μ x1 x2 hf
      rw [f_X12_layDown_L2] at hf
      refine j_iload_n X dX12_layDown_2 rfl rfl ?_
      refine j_bipush (v := (53 : Int32)) X dX12_layDown_3 (by decide) ?_
      refine j_icmp_ge (tgt := 31) X dX12_layDown_5 (by decide) (fun c_5 => ?_) (fun c_5 => ?_)
      · replace hf := (if_pos c_5).symm.trans hf
        obtain rfl := Option.some.inj hf
        exact j_vret X hr hlk dX12_layDown_31 hQ
      · replace hf := (if_neg c_5).symm.trans hf
        refine j_aload_n X dX12_layDown_8 rfl rfl ?_
        refine j_get (C := RX12) (T := TX12) (N := 21) X iX12 0 (wM_0 ..) rfl 2 (by decide) k_918 rfl rfl dX12_layDown_9 ?_
        refine j_bipush (v := (53 : Int32)) X dX12_layDown_12 (by decide) ?_
        refine j_iload_n X dX12_layDown_14 rfl rfl ?_
        refine j_imul X dX12_layDown_15 ?_
        refine j_iload_n X dX12_layDown_16 rfl rfl ?_
        refine j_iadd X dX12_layDown_17 ?_
        refine j_aload_n X dX12_layDown_18 rfl rfl ?_
        refine j_get (C := RX12) (T := TX12) (N := 21) X iX12 0 (wM_0 ..) rfl 0 (by decide) k_916 rfl rfl dX12_layDown_19 ?_
        refine j_iload_n X dX12_layDown_22 rfl rfl ?_
        obtain ⟨c1, hf⟩ := oi_in hf
        refine j_iald X 1 (wM_1 ..) c1 dX12_layDown_23 ?_
        obtain ⟨c2, hf⟩ := oi_in hf
        obtain ⟨μ3, e_μ3, hf⟩ := bd_e hf
        refine j_iast X 3 (wM_3 ..) c2 dX12_layDown_24 (ws' := (wM E h g μ3)) (by rw [e_μ3]; exact wM_s3 ..) ?_
        refine j_iinc2 (k := (1 : Int32)) X dX12_layDown_25 (by decide) (by decide) rfl ?_
        refine j_goto (tgt := 2) X dX12_layDown_28 (by decide) ?_
        refine j_keep [true, true, true] rfl ?_
        exact ih _ _ _ hf
  rw [f_X12_layDown] at hf
  refine j_iconst (v := (0 : Int32)) X dX12_layDown_0 (by decide) ?_
  refine j_istore_n2 X dX12_layDown_1 rfl (by decide) rfl ?_
  refine j_keep [true, true, true] rfl ?_
  exact lab2 _ _ _ _ hf
def f_X12_layBack_L2 : Nat → Mem → Int32 → Int32 → Option Mem
  | 0, _, _, _ => none
  | n + 1, μ, x1, x2 => (if (53 : Int32) ≤ x2 then some μ else (if inb (((53 : Int32) * x1) + x2) 106 = true then (if inb x2 387 = true then bd (upA μ 1 (upd (μ 1) x2.toNatClampNeg (μ 3 (((53 : Int32) * x1) + x2).toNatClampNeg))) fun μ3 => ((f_X12_layBack_L2 n) μ3 x1 (x2 + (1 : Int32))) else none) else none))
def f_X12_layBack (μ : Mem) (x1 : Int32) : Option Mem := f_X12_layBack_L2 fuel0 μ x1 (0 : Int32)
set_option maxHeartbeats 4000000 in
set_option maxRecDepth 20000 in
theorem c_X12_layBack (E : Ev) (h : Nat → Nat) (g : Nat → Option Nat) {μ : Mem} {x1 : Int32} {r : Mem} (hf : f_X12_layBack μ x1 = some r) : Ct E yX12_layBack cX12_layBack 3 none (rmOf 0 0) (wM E h g μ) (wM E h g r) [.ref (h 0), .int x1] none := by
  refine ct_start RX12 1 (by decide) rfl (Nat.le_of_ble_eq_true rfl) ?_
  intro p l e s m args below meth c A Q X hr hlk hQ
  have lab2 : ∀ (n : Nat) (μ : Mem) (x1 : Int32) (x2 : Int32), f_X12_layBack_L2 n μ x1 x2 = some r → J p l e (rmOf 0 0) s m args below meth c E A 3 Q (wM E h g μ) [some (.ref (h 0)), some (.int x1), some (.int x2)] 2 [] := by
    intro n
    induction n with
    | zero => intro μ x1 x2 hf; cases (show none = some r from hf)
    | succ n ih =>
      intro μ x1 x2 hf
      rw [f_X12_layBack_L2] at hf
      refine j_iload_n X dX12_layBack_2 rfl rfl ?_
      refine j_bipush (v := (53 : Int32)) X dX12_layBack_3 (by decide) ?_
      refine j_icmp_ge (tgt := 31) X dX12_layBack_5 (by decide) (fun c_5 => ?_) (fun c_5 => ?_)
      · replace hf := (if_pos c_5).symm.trans hf
        obtain rfl := Option.some.inj hf
        exact j_vret X hr hlk dX12_layBack_31 hQ
      · replace hf := (if_neg c_5).symm.trans hf
        refine j_aload_n X dX12_layBack_8 rfl rfl ?_
        refine j_get (C := RX12) (T := TX12) (N := 21) X iX12 0 (wM_0 ..) rfl 0 (by decide) k_916 rfl rfl dX12_layBack_9 ?_
        refine j_iload_n X dX12_layBack_12 rfl rfl ?_
        refine j_aload_n X dX12_layBack_13 rfl rfl ?_
        refine j_get (C := RX12) (T := TX12) (N := 21) X iX12 0 (wM_0 ..) rfl 2 (by decide) k_918 rfl rfl dX12_layBack_14 ?_
        refine j_bipush (v := (53 : Int32)) X dX12_layBack_17 (by decide) ?_
        refine j_iload_n X dX12_layBack_19 rfl rfl ?_
        refine j_imul X dX12_layBack_20 ?_
        refine j_iload_n X dX12_layBack_21 rfl rfl ?_
        refine j_iadd X dX12_layBack_22 ?_
        obtain ⟨c1, hf⟩ := oi_in hf
        refine j_iald X 3 (wM_3 ..) c1 dX12_layBack_23 ?_
        obtain ⟨c2, hf⟩ := oi_in hf
        obtain ⟨μ3, e_μ3, hf⟩ := bd_e hf
        refine j_iast X 1 (wM_1 ..) c2 dX12_layBack_24 (ws' := (wM E h g μ3)) (by rw [e_μ3]; exact wM_s1 ..) ?_
        refine j_iinc2 (k := (1 : Int32)) X dX12_layBack_25 (by decide) (by decide) rfl ?_
        refine j_goto (tgt := 2) X dX12_layBack_28 (by decide) ?_
        refine j_keep [true, true, true] rfl ?_
        exact ih _ _ _ hf
  rw [f_X12_layBack] at hf
  refine j_iconst (v := (0 : Int32)) X dX12_layBack_0 (by decide) ?_
  refine j_istore_n2 X dX12_layBack_1 rfl (by decide) rfl ?_
  refine j_keep [true, true, true] rfl ?_
  exact lab2 _ _ _ _ hf
def f_X12_isOne (x0 : Int32) : Option Int32 := (f_X12_in x0 (0 : Int32) (8 : Int32)).bind fun q1 => ((if q1 = 0 ∨ q1 = 1 then some q1 else none))
set_option maxHeartbeats 4000000 in
set_option maxRecDepth 20000 in
theorem c_X12_isOne (E : Ev) {x0 : Int32} {r : Int32} (hf : f_X12_isOne x0 = some r) : Ct E yX12_isOne cX12_isOne 1 (some .boolean) (rmOf 1 22) [] [] [.int x0] (some (.int r)) := by
  refine ct_start RX12 0 (by decide) rfl (Nat.le_of_ble_eq_true rfl) ?_
  intro p l e s m args below meth c A Q X hr hlk hQ
  rw [f_X12_isOne] at hf
  refine j_iload_n X dX12_isOne_0 rfl rfl ?_
  refine j_iconst (v := (0 : Int32)) X dX12_isOne_1 (by decide) ?_
  refine j_bipush (v := (8 : Int32)) X dX12_isOne_2 (by decide) ?_
  obtain ⟨q1, g_q1, hf⟩ := ob_t hf
  refine j_callS X [] (c_X12_in E g_q1) rfl rfl rfl (ws' := []) rfl k_984 k_985 k_80 k_986 (⟨rfl, rfl⟩) hdS_X12_in ⟨Nat.le_of_ble_eq_true rfl, Nat.le_of_ble_eq_true rfl⟩ rfl (Nat.le_of_ble_eq_true rfl) rfl dX12_isOne_4 ?_
  obtain ⟨c2, hf⟩ := oi_t hf
  obtain rfl := Option.some.inj hf
  exact j_iret X hr hlk (nb01 c2) dX12_isOne_7 hQ
def f_X12_change1 (μ : Mem) (x1 : Int32) (x2 : Int32) : Option (Mem × Int32) := (if inb x1 387 = true then bd (μ 1 x1.toNatClampNeg) fun y2 => ((if inb x1 387 = true then bd (upA μ 1 (upd (μ 1) x1.toNatClampNeg x2)) fun μ4 => (some (μ4, y2)) else none)) else none)
set_option maxHeartbeats 4000000 in
set_option maxRecDepth 20000 in
theorem c_X12_change1 (E : Ev) (h : Nat → Nat) (g : Nat → Option Nat) {μ : Mem} {x1 : Int32} {x2 : Int32} {r : (Mem × Int32)} (hf : f_X12_change1 μ x1 x2 = some r) : Ct E yX12_change1 cX12_change1 4 (some .int) (rmOf 0 0) (wM E h g μ) (wM E h g r.1) [.ref (h 0), .int x1, .int x2] (some (.int r.2)) := by
  refine ct_start RX12 1 (by decide) rfl (Nat.le_of_ble_eq_true rfl) ?_
  intro p l e s m args below meth c A Q X hr hlk hQ
  rw [f_X12_change1] at hf
  refine j_aload_n X dX12_change1_0 rfl rfl ?_
  refine j_get (C := RX12) (T := TX12) (N := 21) X iX12 0 (wM_0 ..) rfl 0 (by decide) k_916 rfl rfl dX12_change1_1 ?_
  refine j_iload_n X dX12_change1_4 rfl rfl ?_
  obtain ⟨c1, hf⟩ := oi_in hf
  refine j_iald X 1 (wM_1 ..) c1 dX12_change1_5 ?_
  obtain ⟨y2, e_y2, hf⟩ := bd_e hf
  refine j_top e_y2 ?_
  refine j_istore_n3 X dX12_change1_6 rfl (by decide) rfl ?_
  refine j_aload_n X dX12_change1_7 rfl rfl ?_
  refine j_get (C := RX12) (T := TX12) (N := 21) X iX12 0 (wM_0 ..) rfl 0 (by decide) k_916 rfl rfl dX12_change1_8 ?_
  refine j_iload_n X dX12_change1_11 rfl rfl ?_
  refine j_iload_n X dX12_change1_12 rfl rfl ?_
  obtain ⟨c3, hf⟩ := oi_in hf
  obtain ⟨μ4, e_μ4, hf⟩ := bd_e hf
  refine j_iast X 1 (wM_1 ..) c3 dX12_change1_13 (ws' := (wM E h g μ4)) (by rw [e_μ4]; exact wM_s1 ..) ?_
  refine j_iload_n X dX12_change1_14 rfl rfl ?_
  obtain rfl := Option.some.inj hf
  exact j_iret X hr hlk rfl dX12_change1_15 hQ
def f_X12_stands (μ : Mem) (x1 : Int32) : Option (Mem × Int32) := (f_X12_its μ x1 (4 : Int32)).bind fun q1 => ((if q1.2 = (-1 : Int32) then some (q1.1, (1 : Int32)) else some (q1.1, (0 : Int32))))
set_option maxHeartbeats 4000000 in
set_option maxRecDepth 20000 in
theorem c_X12_stands (E : Ev) (h : Nat → Nat) (g : Nat → Option Nat) {μ : Mem} {x1 : Int32} {r : (Mem × Int32)} (hf : f_X12_stands μ x1 = some r) : Ct E yX12_stands cX12_stands 2 (some .boolean) (rmOf 1 22) (wM E h g μ) (wM E h g r.1) [.ref (h 0), .int x1] (some (.int r.2)) := by
  refine ct_start RX12 0 (by decide) rfl (Nat.le_of_ble_eq_true rfl) ?_
  intro p l e s m args below meth c A Q X hr hlk hQ
  rw [f_X12_stands] at hf
  refine j_aload_n X dX12_stands_0 rfl rfl ?_
  refine j_iload_n X dX12_stands_1 rfl rfl ?_
  refine j_iconst (v := (4 : Int32)) X dX12_stands_2 (by decide) ?_
  obtain ⟨q1, g_q1, hf⟩ := ob_t hf
  refine j_callV X [0, 1, 2, 3, 4, 5, 6, 7, 8, 9, 10, 11, 12, 13] 0 (c_X12_its E h g g_q1) (cut_wM_wM_c ..) rfl rfl (ws' := (wM E h g q1.1)) (cut_wM_wM_w ..) (wM_0 ..) rfl k_1052 k_1054 k_36 k_80 k_1055 (⟨rfl, rfl⟩) hdV_X12_its ⟨Nat.le_of_ble_eq_true rfl, Nat.le_of_ble_eq_true rfl⟩ rfl (Nat.le_of_ble_eq_true rfl) rfl dX12_stands_3 ?_
  refine j_iconst (v := (-1 : Int32)) X dX12_stands_6 (by decide) ?_
  refine j_icmp_ne (tgt := 14) X dX12_stands_7 (by decide) (fun c_7 => ?_) (fun c_7 => ?_)
  · replace hf := (if_neg c_7).symm.trans hf
    refine j_iconst (v := (0 : Int32)) X dX12_stands_14 (by decide) ?_
    obtain rfl := Option.some.inj hf
    exact j_iret X hr hlk rfl dX12_stands_15 hQ
  · replace hf := (if_pos c_7).symm.trans hf
    refine j_iconst (v := (1 : Int32)) X dX12_stands_10 (by decide) ?_
    refine j_goto (tgt := 15) X dX12_stands_11 (by decide) ?_
    obtain rfl := Option.some.inj hf
    exact j_iret X hr hlk rfl dX12_stands_15 hQ
def f_X12_howMany_L4 : Nat → Mem → Int32 → Int32 → Option (Mem × Int32)
  | 0, _, _, _ => none
  | n + 1, μ, x1, x2 => (if (9 : Int32) ≤ x2 then some (μ, x1) else (f_X12_stands μ x2).bind fun q1 => ((if q1.2 = 0 then bd (x1 + (0 : Int32)) fun y2 => ((f_X12_howMany_L4 n) q1.1 y2 (x2 + (1 : Int32))) else bd (x1 + (1 : Int32)) fun y3 => ((f_X12_howMany_L4 n) q1.1 y3 (x2 + (1 : Int32))))))
def f_X12_howMany (μ : Mem) : Option (Mem × Int32) := f_X12_howMany_L4 fuel0 μ (0 : Int32) (0 : Int32)
set_option maxHeartbeats 4000000 in
set_option maxRecDepth 20000 in
theorem c_X12_howMany (E : Ev) (h : Nat → Nat) (g : Nat → Option Nat) {μ : Mem} {r : (Mem × Int32)} (hf : f_X12_howMany μ = some r) : Ct E yX12_howMany cX12_howMany 3 (some .int) (rmOf 2 43) (wM E h g μ) (wM E h g r.1) [.ref (h 0)] (some (.int r.2)) := by
  refine ct_start RX12 2 (by decide) rfl (Nat.le_of_ble_eq_true rfl) ?_
  intro p l e s m args below meth c A Q X hr hlk hQ
  have lab4 : ∀ (n : Nat) (μ : Mem) (x1 : Int32) (x2 : Int32), f_X12_howMany_L4 n μ x1 x2 = some r → J p l e (rmOf 2 43) s m args below meth c E A 3 Q (wM E h g μ) [some (.ref (h 0)), some (.int x1), some (.int x2)] 4 [] := by
    intro n
    induction n with
    | zero => intro μ x1 x2 hf; cases (show none = some r from hf)
    | succ n ih =>
      intro μ x1 x2 hf
      rw [f_X12_howMany_L4] at hf
      refine j_iload_n X dX12_howMany_4 rfl rfl ?_
      refine j_bipush (v := (9 : Int32)) X dX12_howMany_5 (by decide) ?_
      refine j_icmp_ge (tgt := 32) X dX12_howMany_7 (by decide) (fun c_7 => ?_) (fun c_7 => ?_)
      · replace hf := (if_pos c_7).symm.trans hf
        refine j_iload_n X dX12_howMany_32 rfl rfl ?_
        obtain rfl := Option.some.inj hf
        exact j_iret X hr hlk rfl dX12_howMany_33 hQ
      · replace hf := (if_neg c_7).symm.trans hf
        refine j_iload_n X dX12_howMany_10 rfl rfl ?_
        refine j_aload_n X dX12_howMany_11 rfl rfl ?_
        refine j_iload_n X dX12_howMany_12 rfl rfl ?_
        obtain ⟨q1, g_q1, hf⟩ := ob_t hf
        refine j_callV X [0, 1, 2, 3, 4, 5, 6, 7, 8, 9, 10, 11, 12, 13] 0 (c_X12_stands E h g g_q1) (cut_wM_wM_c ..) rfl rfl (ws' := (wM E h g q1.1)) (cut_wM_wM_w ..) (wM_0 ..) rfl k_1093 k_1095 k_41 k_80 k_1096 (⟨rfl, rfl⟩) hdV_X12_stands ⟨Nat.le_of_ble_eq_true rfl, Nat.le_of_ble_eq_true rfl⟩ rfl (Nat.le_of_ble_eq_true rfl) rfl dX12_howMany_13 ?_
        refine j_if_eq (tgt := 23) X dX12_howMany_16 (by decide) (fun c_16 => ?_) (fun c_16 => ?_)
        · replace hf := (if_pos c_16).symm.trans hf
          refine j_iconst (v := (0 : Int32)) X dX12_howMany_23 (by decide) ?_
          refine j_iadd X dX12_howMany_24 ?_
          obtain ⟨y2, e_y2, hf⟩ := bd_e hf
          refine j_top e_y2 ?_
          refine j_istore_n1 X dX12_howMany_25 rfl (by decide) rfl ?_
          refine j_iinc2 (k := (1 : Int32)) X dX12_howMany_26 (by decide) (by decide) rfl ?_
          refine j_goto (tgt := 4) X dX12_howMany_29 (by decide) ?_
          refine j_keep [true, true, true] rfl ?_
          exact ih _ _ _ hf
        · replace hf := (if_neg c_16).symm.trans hf
          refine j_iconst (v := (1 : Int32)) X dX12_howMany_19 (by decide) ?_
          refine j_goto (tgt := 24) X dX12_howMany_20 (by decide) ?_
          refine j_iadd X dX12_howMany_24 ?_
          obtain ⟨y3, e_y3, hf⟩ := bd_e hf
          refine j_top e_y3 ?_
          refine j_istore_n1 X dX12_howMany_25 rfl (by decide) rfl ?_
          refine j_iinc2 (k := (1 : Int32)) X dX12_howMany_26 (by decide) (by decide) rfl ?_
          refine j_goto (tgt := 4) X dX12_howMany_29 (by decide) ?_
          refine j_keep [true, true, true] rfl ?_
          exact ih _ _ _ hf
  rw [f_X12_howMany] at hf
  refine j_iconst (v := (0 : Int32)) X dX12_howMany_0 (by decide) ?_
  refine j_istore_n1 X dX12_howMany_1 rfl (by decide) rfl ?_
  refine j_iconst (v := (0 : Int32)) X dX12_howMany_2 (by decide) ?_
  refine j_istore_n2 X dX12_howMany_3 rfl (by decide) rfl ?_
  refine j_keep [true, true, true] rfl ?_
  exact lab4 _ _ _ _ hf
def f_X12_standsAt_L2 : Nat → Mem → Int32 → Int32 → Option (Mem × Int32)
  | 0, _, _, _ => none
  | n + 1, μ, x1, x2 => (f_X12_its μ x2 (2 : Int32)).bind fun q1 => ((if q1.2 = x1 then some (q1.1, x2) else (f_X12_standsAt_L2 n) q1.1 x1 (x2 + (1 : Int32))))
def f_X12_standsAt (μ : Mem) (x1 : Int32) : Option (Mem × Int32) := f_X12_standsAt_L2 fuel0 μ x1 (0 : Int32)
set_option maxHeartbeats 4000000 in
set_option maxRecDepth 20000 in
theorem c_X12_standsAt (E : Ev) (h : Nat → Nat) (g : Nat → Option Nat) {μ : Mem} {x1 : Int32} {r : (Mem × Int32)} (hf : f_X12_standsAt μ x1 = some r) : Ct E yX12_standsAt cX12_standsAt 3 (some .int) (rmOf 1 22) (wM E h g μ) (wM E h g r.1) [.ref (h 0), .int x1] (some (.int r.2)) := by
  refine ct_start RX12 1 (by decide) rfl (Nat.le_of_ble_eq_true rfl) ?_
  intro p l e s m args below meth c A Q X hr hlk hQ
  have lab2 : ∀ (n : Nat) (μ : Mem) (x1 : Int32) (x2 : Int32), f_X12_standsAt_L2 n μ x1 x2 = some r → J p l e (rmOf 1 22) s m args below meth c E A 3 Q (wM E h g μ) [some (.ref (h 0)), some (.int x1), some (.int x2)] 2 [] := by
    intro n
    induction n with
    | zero => intro μ x1 x2 hf; cases (show none = some r from hf)
    | succ n ih =>
      intro μ x1 x2 hf
      rw [f_X12_standsAt_L2] at hf
      refine j_aload_n X dX12_standsAt_2 rfl rfl ?_
      refine j_iload_n X dX12_standsAt_3 rfl rfl ?_
      refine j_iconst (v := (2 : Int32)) X dX12_standsAt_4 (by decide) ?_
      obtain ⟨q1, g_q1, hf⟩ := ob_t hf
      refine j_callV X [0, 1, 2, 3, 4, 5, 6, 7, 8, 9, 10, 11, 12, 13] 0 (c_X12_its E h g g_q1) (cut_wM_wM_c ..) rfl rfl (ws' := (wM E h g q1.1)) (cut_wM_wM_w ..) (wM_0 ..) rfl k_1052 k_1054 k_36 k_80 k_1055 (⟨rfl, rfl⟩) hdV_X12_its ⟨Nat.le_of_ble_eq_true rfl, Nat.le_of_ble_eq_true rfl⟩ rfl (Nat.le_of_ble_eq_true rfl) rfl dX12_standsAt_5 ?_
      refine j_iload_n X dX12_standsAt_8 rfl rfl ?_
      refine j_icmp_eq (tgt := 18) X dX12_standsAt_9 (by decide) (fun c_9 => ?_) (fun c_9 => ?_)
      · replace hf := (if_pos c_9).symm.trans hf
        refine j_iload_n X dX12_standsAt_18 rfl rfl ?_
        obtain rfl := Option.some.inj hf
        exact j_iret X hr hlk rfl dX12_standsAt_19 hQ
      · replace hf := (if_neg c_9).symm.trans hf
        refine j_iinc2 (k := (1 : Int32)) X dX12_standsAt_12 (by decide) (by decide) rfl ?_
        refine j_goto (tgt := 2) X dX12_standsAt_15 (by decide) ?_
        refine j_keep [true, true, true] rfl ?_
        exact ih _ _ _ hf
  rw [f_X12_standsAt] at hf
  refine j_iconst (v := (0 : Int32)) X dX12_standsAt_0 (by decide) ?_
  refine j_istore_n2 X dX12_standsAt_1 rfl (by decide) rfl ?_
  refine j_keep [true, true, true] rfl ?_
  exact lab2 _ _ _ _ hf
def f_X12_feed_L38 : Nat → Mem → Int64 → Int32 → Int32 → Option (Mem × Int32)
  | 0, _, _, _, _ => none
  | n + 1, μ, x1, x3, x4 => (if x3 ≤ x4 then (if inb (2 : Int32) 387 = true then some (μ, (μ 1 (2 : Int32).toNatClampNeg)) else none) else (if inb (2 : Int32) 387 = true then (if inb ((303 : Int32) + (μ 1 (2 : Int32).toNatClampNeg)) 387 = true then bd (upA μ 1 (upd (μ 1) ((303 : Int32) + (μ 1 (2 : Int32).toNatClampNeg)).toNatClampNeg (((lshr x1 ((8 : Int32) * x4)) &&& (255 : Int64)).toInt32))) fun μ6 => ((if inb (2 : Int32) 387 = true then (if inb (2 : Int32) 387 = true then bd (upA μ6 1 (upd (μ6 1) (2 : Int32).toNatClampNeg ((μ6 1 (2 : Int32).toNatClampNeg) + (1 : Int32)))) fun μ9 => ((f_X12_feed_L38 n) μ9 x1 x3 (x4 + (1 : Int32))) else none) else none)) else none) else none))
def f_X12_feed (μ : Mem) (x1 : Int64) (x3 : Int32) : Option (Mem × Int32) := (f_X12_in x3 (1 : Int32) (8 : Int32)).bind fun q1 => ((if q1 = 0 then (f_X12_error μ (1 : Int32)).bind fun q11 => (some (q11.1, q11.2)) else (if inb (2 : Int32) 387 = true then (if ((μ 1 (2 : Int32).toNatClampNeg) + x3) ≤ (60 : Int32) then f_X12_feed_L38 fuel0 μ x1 x3 (0 : Int32) else (f_X12_error μ (4 : Int32)).bind fun q10 => (some (q10.1, q10.2))) else none)))
set_option maxHeartbeats 4000000 in
set_option maxRecDepth 20000 in
theorem c_X12_feed (E : Ev) (h : Nat → Nat) (g : Nat → Option Nat) {μ : Mem} {x1 : Int64} {x3 : Int32} {r : (Mem × Int32)} (hf : f_X12_feed μ x1 x3 = some r) : Ct E yX12_feed cX12_feed 5 (some .int) (rmOf 1 22) (wM E h g μ) (wM E h g r.1) [.ref (h 0), .long x1, .int x3] (some (.int r.2)) := by
  refine ct_start RX12 1 (by decide) rfl (Nat.le_of_ble_eq_true rfl) ?_
  intro p l e s m args below meth c A Q X hr hlk hQ
  have lab38 : ∀ (n : Nat) (μ : Mem) (x1 : Int64) (x3 : Int32) (x4 : Int32), f_X12_feed_L38 n μ x1 x3 x4 = some r → J p l e (rmOf 1 22) s m args below meth c E A 5 Q (wM E h g μ) [some (.ref (h 0)), some (.long x1), none, some (.int x3), some (.int x4)] 38 [] := by
    intro n
    induction n with
    | zero => intro μ x1 x3 x4 hf; cases (show none = some r from hf)
    | succ n ih =>
      intro μ x1 x3 x4 hf
      rw [f_X12_feed_L38] at hf
      refine j_iload X dX12_feed_38 rfl ?_
      refine j_iload_n X dX12_feed_40 rfl rfl ?_
      refine j_icmp_ge (tgt := 87) X dX12_feed_41 (by decide) (fun c_41 => ?_) (fun c_41 => ?_)
      · replace hf := (if_pos c_41).symm.trans hf
        refine j_aload_n X dX12_feed_87 rfl rfl ?_
        refine j_get (C := RX12) (T := TX12) (N := 21) X iX12 0 (wM_0 ..) rfl 0 (by decide) k_916 rfl rfl dX12_feed_88 ?_
        refine j_iconst (v := (2 : Int32)) X dX12_feed_91 (by decide) ?_
        obtain ⟨c3, hf⟩ := oi_in hf
        refine j_iald X 1 (wM_1 ..) c3 dX12_feed_92 ?_
        obtain rfl := Option.some.inj hf
        exact j_iret X hr hlk rfl dX12_feed_93 hQ
      · replace hf := (if_neg c_41).symm.trans hf
        refine j_aload_n X dX12_feed_44 rfl rfl ?_
        refine j_get (C := RX12) (T := TX12) (N := 21) X iX12 0 (wM_0 ..) rfl 0 (by decide) k_916 rfl rfl dX12_feed_45 ?_
        refine j_sipush (v := (303 : Int32)) X dX12_feed_48 (by decide) ?_
        refine j_aload_n X dX12_feed_51 rfl rfl ?_
        refine j_get (C := RX12) (T := TX12) (N := 21) X iX12 0 (wM_0 ..) rfl 0 (by decide) k_916 rfl rfl dX12_feed_52 ?_
        refine j_iconst (v := (2 : Int32)) X dX12_feed_55 (by decide) ?_
        obtain ⟨c4, hf⟩ := oi_in hf
        refine j_iald X 1 (wM_1 ..) c4 dX12_feed_56 ?_
        refine j_iadd X dX12_feed_57 ?_
        refine j_lload_n X dX12_feed_58 rfl rfl ?_
        refine j_bipush (v := (8 : Int32)) X dX12_feed_59 (by decide) ?_
        refine j_iload X dX12_feed_61 rfl ?_
        refine j_imul X dX12_feed_63 ?_
        refine j_lshr X dX12_feed_64 ?_
        refine j_ldc2 X k_992 dX12_feed_65 ?_
        refine j_land X dX12_feed_68 ?_
        refine j_l2i X dX12_feed_69 ?_
        obtain ⟨c5, hf⟩ := oi_in hf
        obtain ⟨μ6, e_μ6, hf⟩ := bd_e hf
        refine j_iast X 1 (wM_1 ..) c5 dX12_feed_70 (ws' := (wM E h g μ6)) (by rw [e_μ6]; exact wM_s1 ..) ?_
        refine j_aload_n X dX12_feed_71 rfl rfl ?_
        refine j_get (C := RX12) (T := TX12) (N := 21) X iX12 0 (wM_0 ..) rfl 0 (by decide) k_916 rfl rfl dX12_feed_72 ?_
        refine j_iconst (v := (2 : Int32)) X dX12_feed_75 (by decide) ?_
        refine j_dup2 X dX12_feed_76 rfl rfl ?_
        obtain ⟨c7, hf⟩ := oi_in hf
        refine j_iald X 1 (wM_1 ..) c7 dX12_feed_77 ?_
        refine j_iconst (v := (1 : Int32)) X dX12_feed_78 (by decide) ?_
        refine j_iadd X dX12_feed_79 ?_
        obtain ⟨c8, hf⟩ := oi_in hf
        obtain ⟨μ9, e_μ9, hf⟩ := bd_e hf
        refine j_iast X 1 (wM_1 ..) c8 dX12_feed_80 (ws' := (wM E h g μ9)) (by rw [e_μ9]; exact wM_s1 ..) ?_
        refine j_iinc4 (k := (1 : Int32)) X dX12_feed_81 (by decide) (by decide) rfl ?_
        refine j_goto (tgt := 38) X dX12_feed_84 (by decide) ?_
        refine j_keep [true, true, false, true, true] rfl ?_
        exact ih _ _ _ _ hf
  rw [f_X12_feed] at hf
  refine j_iload_n X dX12_feed_0 rfl rfl ?_
  refine j_iconst (v := (1 : Int32)) X dX12_feed_1 (by decide) ?_
  refine j_bipush (v := (8 : Int32)) X dX12_feed_2 (by decide) ?_
  obtain ⟨q1, g_q1, hf⟩ := ob_t hf
  refine j_callS X [] (c_X12_in E g_q1) rfl rfl rfl (ws' := (wM E h g μ)) rfl k_984 k_985 k_80 k_986 (⟨rfl, rfl⟩) hdS_X12_in ⟨Nat.le_of_ble_eq_true rfl, Nat.le_of_ble_eq_true rfl⟩ rfl (Nat.le_of_ble_eq_true rfl) rfl dX12_feed_4 ?_
  refine j_if_ne (tgt := 16) X dX12_feed_7 (by decide) (fun c_7 => ?_) (fun c_7 => ?_)
  · replace hf := (if_neg c_7).symm.trans hf
    refine j_aload_n X dX12_feed_16 rfl rfl ?_
    refine j_get (C := RX12) (T := TX12) (N := 21) X iX12 0 (wM_0 ..) rfl 0 (by decide) k_916 rfl rfl dX12_feed_17 ?_
    refine j_iconst (v := (2 : Int32)) X dX12_feed_20 (by decide) ?_
    obtain ⟨c2, hf⟩ := oi_in hf
    refine j_iald X 1 (wM_1 ..) c2 dX12_feed_21 ?_
    refine j_iload_n X dX12_feed_22 rfl rfl ?_
    refine j_iadd X dX12_feed_23 ?_
    refine j_bipush (v := (60 : Int32)) X dX12_feed_24 (by decide) ?_
    refine j_icmp_le (tgt := 35) X dX12_feed_26 (by decide) (fun c_26 => ?_) (fun c_26 => ?_)
    · replace hf := (if_pos c_26).symm.trans hf
      refine j_iconst (v := (0 : Int32)) X dX12_feed_35 (by decide) ?_
      refine j_istore4 X dX12_feed_36 (by decide) rfl ?_
      refine j_keep [true, true, false, true, true] rfl ?_
      exact lab38 _ _ _ _ _ hf
    · replace hf := (if_neg c_26).symm.trans hf
      refine j_aload_n X dX12_feed_29 rfl rfl ?_
      refine j_iconst (v := (4 : Int32)) X dX12_feed_30 (by decide) ?_
      obtain ⟨q10, g_q10, hf⟩ := ob_t hf
      refine j_callV X [0, 1, 2, 3, 4, 5, 6, 7, 8, 9, 10, 11, 12, 13] 0 (c_X12_error E h g g_q10) (cut_wM_wM_c ..) rfl rfl (ws' := (wM E h g q10.1)) (cut_wM_wM_w ..) (wM_0 ..) rfl k_987 k_989 k_24 k_80 k_990 (⟨rfl, rfl⟩) hdV_X12_error ⟨Nat.le_of_ble_eq_true rfl, Nat.le_of_ble_eq_true rfl⟩ rfl (Nat.le_of_ble_eq_true rfl) rfl dX12_feed_31 ?_
      obtain rfl := Option.some.inj hf
      exact j_iret X hr hlk rfl dX12_feed_34 hQ
  · replace hf := (if_pos c_7).symm.trans hf
    refine j_aload_n X dX12_feed_10 rfl rfl ?_
    refine j_iconst (v := (1 : Int32)) X dX12_feed_11 (by decide) ?_
    obtain ⟨q11, g_q11, hf⟩ := ob_t hf
    refine j_callV X [0, 1, 2, 3, 4, 5, 6, 7, 8, 9, 10, 11, 12, 13] 0 (c_X12_error E h g g_q11) (cut_wM_wM_c ..) rfl rfl (ws' := (wM E h g q11.1)) (cut_wM_wM_w ..) (wM_0 ..) rfl k_987 k_989 k_24 k_80 k_990 (⟨rfl, rfl⟩) hdV_X12_error ⟨Nat.le_of_ble_eq_true rfl, Nat.le_of_ble_eq_true rfl⟩ rfl (Nat.le_of_ble_eq_true rfl) rfl dX12_feed_12 ?_
    obtain rfl := Option.some.inj hf
    exact j_iret X hr hlk rfl dX12_feed_15 hQ
def f_X12_hasText (μ : Mem) (x1 : Int32) : Option (Mem × Int32) := (if inb ((53 : Int32) + ((125 : Int32) * x1)) 387 = true then (if (μ 1 ((53 : Int32) + ((125 : Int32) * x1)).toNatClampNeg) ≤ 0 then some (μ, (0 : Int32)) else some (μ, (1 : Int32))) else none)
set_option maxHeartbeats 4000000 in
set_option maxRecDepth 20000 in
theorem c_X12_hasText (E : Ev) (h : Nat → Nat) (g : Nat → Option Nat) {μ : Mem} {x1 : Int32} {r : (Mem × Int32)} (hf : f_X12_hasText μ x1 = some r) : Ct E yX12_hasText cX12_hasText 2 (some .boolean) (rmOf 0 0) (wM E h g μ) (wM E h g r.1) [.ref (h 0), .int x1] (some (.int r.2)) := by
  refine ct_start RX12 0 (by decide) rfl (Nat.le_of_ble_eq_true rfl) ?_
  intro p l e s m args below meth c A Q X hr hlk hQ
  rw [f_X12_hasText] at hf
  refine j_aload_n X dX12_hasText_0 rfl rfl ?_
  refine j_get (C := RX12) (T := TX12) (N := 21) X iX12 0 (wM_0 ..) rfl 0 (by decide) k_916 rfl rfl dX12_hasText_1 ?_
  refine j_bipush (v := (53 : Int32)) X dX12_hasText_4 (by decide) ?_
  refine j_bipush (v := (125 : Int32)) X dX12_hasText_6 (by decide) ?_
  refine j_iload_n X dX12_hasText_8 rfl rfl ?_
  refine j_imul X dX12_hasText_9 ?_
  refine j_iadd X dX12_hasText_10 ?_
  obtain ⟨c1, hf⟩ := oi_in hf
  refine j_iald X 1 (wM_1 ..) c1 dX12_hasText_11 ?_
  refine j_if_le (tgt := 19) X dX12_hasText_12 (by decide) (fun c_12 => ?_) (fun c_12 => ?_)
  · replace hf := (if_pos c_12).symm.trans hf
    refine j_iconst (v := (0 : Int32)) X dX12_hasText_19 (by decide) ?_
    obtain rfl := Option.some.inj hf
    exact j_iret X hr hlk rfl dX12_hasText_20 hQ
  · replace hf := (if_neg c_12).symm.trans hf
    refine j_iconst (v := (1 : Int32)) X dX12_hasText_15 (by decide) ?_
    refine j_goto (tgt := 20) X dX12_hasText_16 (by decide) ?_
    obtain rfl := Option.some.inj hf
    exact j_iret X hr hlk rfl dX12_hasText_20 hQ
