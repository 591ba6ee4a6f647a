theorem tbl_all {ws : List Cond} (h : ws.all (fun w => decide (w ∈ lw_tbl) && goodWord w) = true) : ∀ w ∈ ws, w ∈ tbl := fun w hw => by
  have h1 := List.all_eq_true.mp h w hw
  simp only [Bool.and_eq_true, decide_eq_true_eq] at h1
  exact List.mem_filter.mpr h1
theorem tbl_k {w : Cond} {T : List Cond} (h : ∀ v ∈ T, v ∈ lw_tbl) (j : Nat) (e : T[j]? = some w) (g : goodWord w = true) : w ∈ tbl := List.mem_filter.mpr ⟨h _ (List.mem_of_getElem? e), g⟩
theorem tq_1 : ∀ v ∈ tables_1_1, v ∈ lw_tbl := fun v hv => List.mem_append_right _ (List.mem_append_left _ hv)
theorem tq_2 : ∀ v ∈ tables_1_2, v ∈ lw_tbl := fun v hv => List.mem_append_right _ (List.mem_append_right _ (List.mem_append_left _ hv))
theorem tq_3 : ∀ v ∈ tables_1_3, v ∈ lw_tbl := fun v hv => List.mem_append_right _ (List.mem_append_right _ (List.mem_append_right _ (List.mem_append_left _ hv)))
theorem tq_4 : ∀ v ∈ tables_1_4, v ∈ lw_tbl := fun v hv => List.mem_append_right _ (List.mem_append_right _ (List.mem_append_right _ (List.mem_append_right _ (List.mem_append_left _ hv))))
theorem tq_5 : ∀ v ∈ tables_1_5, v ∈ lw_tbl := fun v hv => List.mem_append_right _ (List.mem_append_right _ (List.mem_append_right _ (List.mem_append_right _ (List.mem_append_right _ (List.mem_append_left _ hv)))))
theorem tq_6 : ∀ v ∈ tables_1_6, v ∈ lw_tbl := fun v hv => List.mem_append_right _ (List.mem_append_right _ (List.mem_append_right _ (List.mem_append_right _ (List.mem_append_right _ (List.mem_append_right _ (hv))))))
theorem iX1 : ∀ w ∈ u_ws RX1 TX1 9, w ∈ tbl := fun w h => tbl_all (by decide +kernel) w h
theorem iX4 : ∀ w ∈ u_ws RX4 TX4 10, w ∈ tbl := fun w h => tbl_all (by decide +kernel) w h
theorem iX5 : ∀ w ∈ u_ws RX5 TX5 8, w ∈ tbl := fun w h => tbl_all (by decide +kernel) w h
theorem iX6 : ∀ w ∈ u_ws RX6 TX6 7, w ∈ tbl := fun w h => tbl_all (by decide +kernel) w h
theorem iX11 : ∀ w ∈ u_ws RX11 TX11 10, w ∈ tbl := fun w h => tbl_all (by decide +kernel) w h
theorem iX12 : ∀ w ∈ u_ws RX12 TX12 21, w ∈ tbl := fun w h => tbl_all (by decide +kernel) w h
theorem k_0 : (Cond.selects RX11 yX11_fails yX11_fails) ∈ tbl := tbl_m 0 (by decide +kernel) (by decide +kernel)
theorem k_1 : (Cond.selects RX4 yX4_leastAtZero yX4_leastAtZero) ∈ tbl := tbl_m 1 (by decide +kernel) (by decide +kernel)
theorem k_2 : (Cond.selects RX4 yX4_stir yX4_stir) ∈ tbl := tbl_m 2 (by decide +kernel) (by decide +kernel)
theorem k_3 : (Cond.selects RX4 yX4_lessen yX4_lessen) ∈ tbl := tbl_m 3 (by decide +kernel) (by decide +kernel)
theorem k_4 : (Cond.selects RX1 yX1_readEither yX1_readEither) ∈ tbl := tbl_m 4 (by decide +kernel) (by decide +kernel)
theorem k_5 : (Cond.selects RX1 yX1_readBoth yX1_readBoth) ∈ tbl := tbl_m 5 (by decide +kernel) (by decide +kernel)
theorem k_6 : (Cond.selects RX1 yX1_readCompared yX1_readCompared) ∈ tbl := tbl_m 6 (by decide +kernel) (by decide +kernel)
theorem k_7 : (Cond.selects RX1 yX1_readSum yX1_readSum) ∈ tbl := tbl_m 7 (by decide +kernel) (by decide +kernel)
theorem k_8 : (Cond.selects RX1 yX1_readProduct yX1_readProduct) ∈ tbl := tbl_m 8 (by decide +kernel) (by decide +kernel)
theorem k_9 : (Cond.selects RX1 yX1_readUnit yX1_readUnit) ∈ tbl := tbl_m 9 (by decide +kernel) (by decide +kernel)
theorem k_10 : (Cond.selects RX1 yX1_seesDigit yX1_seesDigit) ∈ tbl := tbl_m 10 (by decide +kernel) (by decide +kernel)
theorem k_11 : (Cond.selects RX1 yX1_nextSign yX1_nextSign) ∈ tbl := tbl_m 11 (by decide +kernel) (by decide +kernel)
theorem k_12 : (Cond.selects RX1 yX1_readNumber yX1_readNumber) ∈ tbl := tbl_m 12 (by decide +kernel) (by decide +kernel)
theorem k_13 : (Cond.selects RX1 yX1_takeSign yX1_takeSign) ∈ tbl := tbl_m 13 (by decide +kernel) (by decide +kernel)
theorem k_14 : (Cond.selects RX1 yX1_write yX1_write) ∈ tbl := tbl_m 14 (by decide +kernel) (by decide +kernel)
theorem k_15 : (Cond.selects RX1 yX1_sees yX1_sees) ∈ tbl := tbl_m 15 (by decide +kernel) (by decide +kernel)
theorem k_16 : (Cond.selects RX1 yX1_readBracket yX1_readBracket) ∈ tbl := tbl_m 16 (by decide +kernel) (by decide +kernel)
theorem k_17 : (Cond.selects RX11 yX11_lookAhead yX11_lookAhead) ∈ tbl := tbl_m 17 (by decide +kernel) (by decide +kernel)
theorem k_18 : (Cond.selects RX11 yX11_bestRound yX11_bestRound) ∈ tbl := tbl_m 18 (by decide +kernel) (by decide +kernel)
theorem k_19 : (Cond.selects RX11 yX11_flyRow yX11_flyRow) ∈ tbl := tbl_m 19 (by decide +kernel) (by decide +kernel)
theorem k_20 : (Cond.selects RX11 yX11_isEmptiedBy yX11_isEmptiedBy) ∈ tbl := tbl_m 20 (by decide +kernel) (by decide +kernel)
theorem k_21 : (Cond.selects RX11 yX11_isMissing yX11_isMissing) ∈ tbl := tbl_m 21 (by decide +kernel) (by decide +kernel)
theorem k_22 : (Cond.selects RX11 yX11_stand yX11_stand) ∈ tbl := tbl_m 22 (by decide +kernel) (by decide +kernel)
theorem k_23 : (Cond.selects RX12 yX12_lays1 yX12_lays1) ∈ tbl := tbl_m 23 (by decide +kernel) (by decide +kernel)
theorem k_24 : (Cond.selects RX12 yX12_error yX12_error) ∈ tbl := tbl_m 24 (by decide +kernel) (by decide +kernel)
theorem k_25 : (Cond.selects RX12 yX12_whole yX12_whole) ∈ tbl := tbl_m 25 (by decide +kernel) (by decide +kernel)
theorem k_26 : (Cond.selects RX12 yX12_both yX12_both) ∈ tbl := tbl_m 26 (by decide +kernel) (by decide +kernel)
theorem k_27 : (Cond.selects RX12 yX12_compared yX12_compared) ∈ tbl := tbl_m 27 (by decide +kernel) (by decide +kernel)
theorem k_28 : (Cond.selects RX12 yX12_sum yX12_sum) ∈ tbl := tbl_m 28 (by decide +kernel) (by decide +kernel)
theorem k_29 : (Cond.selects RX12 yX12_product yX12_product) ∈ tbl := tbl_m 29 (by decide +kernel) (by decide +kernel)
theorem k_30 : (Cond.selects RX12 yX12_one yX12_one) ∈ tbl := tbl_m 30 (by decide +kernel) (by decide +kernel)
theorem k_31 : (Cond.selects RX12 yX12_look yX12_look) ∈ tbl := tbl_m 31 (by decide +kernel) (by decide +kernel)
theorem k_32 : (Cond.selects RX12 yX12_isName yX12_isName) ∈ tbl := tbl_m 32 (by decide +kernel) (by decide +kernel)
theorem k_33 : (Cond.selects RX12 yX12_step1 yX12_step1) ∈ tbl := tbl_m 33 (by decide +kernel) (by decide +kernel)
theorem k_34 : (Cond.selects RX12 yX12_opens yX12_opens) ∈ tbl := tbl_m 34 (by decide +kernel) (by decide +kernel)
theorem k_35 : (Cond.selects RX12 yX12_hasText yX12_hasText) ∈ tbl := tbl_m 35 (by decide +kernel) (by decide +kernel)
theorem k_36 : (Cond.selects RX12 yX12_its yX12_its) ∈ tbl := tbl_m 36 (by decide +kernel) (by decide +kernel)
theorem k_37 : (Cond.selects RX12 yX12_spends yX12_spends) ∈ tbl := tbl_m 37 (by decide +kernel) (by decide +kernel)
theorem k_38 : (Cond.selects RX12 yX12_spendsTold yX12_spendsTold) ∈ tbl := tbl_m 38 (by decide +kernel) (by decide +kernel)
theorem k_39 : (Cond.selects RX12 yX12_worked yX12_worked) ∈ tbl := tbl_m 39 (by decide +kernel) (by decide +kernel)
theorem k_40 : (Cond.selects RX12 yX12_bite yX12_bite) ∈ tbl := tbl_m 40 (by decide +kernel) (by decide +kernel)
theorem k_41 : (Cond.selects RX12 yX12_stands yX12_stands) ∈ tbl := tbl_m 41 (by decide +kernel) (by decide +kernel)
theorem k_42 : (Cond.selects RX12 yX12_settle yX12_settle) ∈ tbl := tbl_m 42 (by decide +kernel) (by decide +kernel)
theorem k_43 : (Cond.selects RX12 yX12_stirs yX12_stirs) ∈ tbl := tbl_m 43 (by decide +kernel) (by decide +kernel)
theorem k_44 : (Cond.selects RX12 yX12_shaken yX12_shaken) ∈ tbl := tbl_m 44 (by decide +kernel) (by decide +kernel)
theorem k_45 : (Cond.selects RX12 yX12_loses yX12_loses) ∈ tbl := tbl_m 45 (by decide +kernel) (by decide +kernel)
theorem k_46 : (Cond.selects RX12 yX12_swaps yX12_swaps) ∈ tbl := tbl_m 46 (by decide +kernel) (by decide +kernel)
theorem k_47 : (Cond.selects RX12 yX12_change1 yX12_change1) ∈ tbl := tbl_m 47 (by decide +kernel) (by decide +kernel)
theorem k_48 : (Cond.selects RX12 yX12_standsAt yX12_standsAt) ∈ tbl := tbl_m 48 (by decide +kernel) (by decide +kernel)
theorem k_49 : (Cond.selects RX12 yX12_go yX12_go) ∈ tbl := tbl_m 49 (by decide +kernel) (by decide +kernel)
theorem k_50 : (Cond.selects RX12 yX12_minute yX12_minute) ∈ tbl := tbl_m 50 (by decide +kernel) (by decide +kernel)
theorem k_51 : (Cond.selects RX12 yX12_flyAt yX12_flyAt) ∈ tbl := tbl_m 51 (by decide +kernel) (by decide +kernel)
theorem k_52 : (Cond.selects RX12 yX12_pokes yX12_pokes) ∈ tbl := tbl_m 52 (by decide +kernel) (by decide +kernel)
theorem k_53 : (Cond.selects RX12 yX12_draw yX12_draw) ∈ tbl := tbl_m 53 (by decide +kernel) (by decide +kernel)
theorem k_54 : (Cond.selects RX12 yX12_layDown yX12_layDown) ∈ tbl := tbl_m 54 (by decide +kernel) (by decide +kernel)
theorem k_55 : (Cond.selects RX12 yX12_layBack yX12_layBack) ∈ tbl := tbl_m 55 (by decide +kernel) (by decide +kernel)
theorem k_56 : (Cond.selects RX12 yX12_howMany yX12_howMany) ∈ tbl := tbl_m 56 (by decide +kernel) (by decide +kernel)
theorem k_57 : (Cond.selects RX12 yX12_lastAll yX12_lastAll) ∈ tbl := tbl_m 57 (by decide +kernel) (by decide +kernel)
theorem k_58 : (Cond.selects RX12 yX12_standSet yX12_standSet) ∈ tbl := tbl_m 58 (by decide +kernel) (by decide +kernel)
theorem k_59 : (Cond.selects RX12 yX12_kindNow yX12_kindNow) ∈ tbl := tbl_m 59 (by decide +kernel) (by decide +kernel)
theorem k_60 : (Cond.selects RX12 yX12_holdsAs yX12_holdsAs) ∈ tbl := tbl_m 60 (by decide +kernel) (by decide +kernel)
theorem k_61 : (Cond.selects RX12 yX12_begins yX12_begins) ∈ tbl := tbl_m 61 (by decide +kernel) (by decide +kernel)
theorem k_62 : (Cond.selects RX12 yX12_leansAs yX12_leansAs) ∈ tbl := tbl_m 62 (by decide +kernel) (by decide +kernel)
theorem k_63 : (Cond.selects RX12 yX12_mNow yX12_mNow) ∈ tbl := tbl_m 63 (by decide +kernel) (by decide +kernel)
theorem k_64 : (Cond.selects RX12 yX12_swaysAs yX12_swaysAs) ∈ tbl := tbl_m 64 (by decide +kernel) (by decide +kernel)
theorem k_65 : (Cond.selects RX12 yX12_partsAs yX12_partsAs) ∈ tbl := tbl_m 65 (by decide +kernel) (by decide +kernel)
theorem k_66 : (Cond.selects RX12 yX12_lacks yX12_lacks) ∈ tbl := tbl_m 66 (by decide +kernel) (by decide +kernel)
theorem k_67 : (Cond.initialized RL) ∈ tbl := tbl_k tq_1 0 rfl rfl
theorem k_68 : (Cond.initialized RX11) ∈ tbl := tbl_k tq_1 1 rfl rfl
theorem k_69 : (Cond.initialized RX7) ∈ tbl := tbl_k tq_1 2 rfl rfl
theorem k_70 : (Cond.initialized RX0) ∈ tbl := tbl_k tq_1 3 rfl rfl
theorem k_71 : (Cond.initialized RX2) ∈ tbl := tbl_k tq_1 4 rfl rfl
theorem k_72 : (Cond.initialized RX8) ∈ tbl := tbl_k tq_1 5 rfl rfl
theorem k_73 : (Cond.initialized RX3) ∈ tbl := tbl_k tq_1 6 rfl rfl
theorem k_74 : (Cond.initialized RX10) ∈ tbl := tbl_k tq_1 7 rfl rfl
theorem k_75 : (Cond.initialized RX9) ∈ tbl := tbl_k tq_1 8 rfl rfl
theorem k_76 : (Cond.initialized RX5) ∈ tbl := tbl_k tq_1 9 rfl rfl
theorem k_77 : (Cond.initialized RX1) ∈ tbl := tbl_k tq_1 10 rfl rfl
theorem k_78 : (Cond.initialized RX4) ∈ tbl := tbl_k tq_1 11 rfl rfl
theorem k_79 : (Cond.initialized RX6) ∈ tbl := tbl_k tq_1 12 rfl rfl
theorem k_80 : (Cond.initialized RX12) ∈ tbl := tbl_k tq_1 13 rfl rfl
theorem k_81 : (Cond.initialized "java/lang/Math") ∈ tbl := tbl_k tq_1 14 rfl rfl
theorem k_82 : (Cond.initialized "java/lang/System") ∈ tbl := tbl_k tq_1 15 rfl rfl
theorem k_83 : (Cond.initialized "java/lang/Integer") ∈ tbl := tbl_k tq_1 16 rfl rfl
theorem k_84 : (Cond.classLink RL 7 RX11) ∈ tbl := tbl_k tq_1 17 rfl rfl
theorem k_85 : (Cond.instantiable RX11 10) ∈ tbl := tbl_k tq_1 18 rfl rfl
theorem k_86 : (Cond.methodLink RL 9 yX11_init) ∈ tbl := tbl_k tq_1 19 rfl rfl
theorem k_87 : (Cond.instanceMethod yX11_init) ∈ tbl := tbl_k tq_1 20 rfl rfl
theorem k_88 : (Cond.code yX11_init cX11_init 3 none) ∈ tbl := tbl_k tq_1 21 rfl rfl
theorem k_89 : (Cond.methodLink RX11 1 Lib.objectInit) ∈ tbl := tbl_k tq_1 22 rfl rfl
theorem k_90 : (Cond.instanceMethod Lib.objectInit) ∈ tbl := tbl_k tq_1 23 rfl rfl
theorem k_91 : (Cond.code Lib.objectInit ⟨#[0xb1]⟩ 1 none) ∈ tbl := tbl_k tq_1 24 rfl rfl
theorem k_92 : (Cond.classLink RX11 7 RX7) ∈ tbl := tbl_k tq_1 25 rfl rfl
theorem k_94 : (Cond.instantiable RX7 0) ∈ tbl := tbl_k tq_1 27 rfl rfl
theorem k_96 : (Cond.instanceMethod yX7_init) ∈ tbl := tbl_k tq_1 29 rfl rfl
theorem k_97 : (Cond.code yX7_init cX7_init 1 none) ∈ tbl := tbl_k tq_1 30 rfl rfl
theorem k_98 : (Cond.methodLink RX7 1 Lib.objectInit) ∈ tbl := tbl_k tq_1 31 rfl rfl
theorem k_99 : (Cond.superclass RX7 "java/lang/Object") ∈ tbl := tbl_k tq_1 32 rfl rfl
theorem k_100 : (Cond.classLink RX11 10 RX0) ∈ tbl := tbl_k tq_1 33 rfl rfl
theorem k_101 : (Cond.instantiable RX0 0) ∈ tbl := tbl_k tq_1 34 rfl rfl
theorem k_103 : (Cond.instanceMethod yX0_init) ∈ tbl := tbl_k tq_1 36 rfl rfl
theorem k_104 : (Cond.code yX0_init cX0_init 1 none) ∈ tbl := tbl_k tq_1 37 rfl rfl
theorem k_106 : (Cond.superclass RX0 RX7) ∈ tbl := tbl_k tq_1 39 rfl rfl
theorem k_107 : (Cond.classLink RX11 13 RX2) ∈ tbl := tbl_k tq_1 40 rfl rfl
theorem k_108 : (Cond.instantiable RX2 0) ∈ tbl := tbl_k tq_1 41 rfl rfl
theorem k_110 : (Cond.instanceMethod yX2_init) ∈ tbl := tbl_k tq_1 43 rfl rfl
theorem k_111 : (Cond.code yX2_init cX2_init 1 none) ∈ tbl := tbl_k tq_1 44 rfl rfl
theorem k_113 : (Cond.superclass RX2 RX7) ∈ tbl := tbl_k tq_1 46 rfl rfl
theorem k_114 : (Cond.classLink RX11 16 RX8) ∈ tbl := tbl_k tq_1 47 rfl rfl
theorem k_115 : (Cond.instantiable RX8 0) ∈ tbl := tbl_k tq_1 48 rfl rfl
theorem k_117 : (Cond.instanceMethod yX8_init) ∈ tbl := tbl_k tq_1 50 rfl rfl
theorem k_118 : (Cond.code yX8_init cX8_init 1 none) ∈ tbl := tbl_k tq_1 51 rfl rfl
theorem k_120 : (Cond.superclass RX8 RX7) ∈ tbl := tbl_k tq_1 53 rfl rfl
theorem k_121 : (Cond.classLink RX11 19 RX3) ∈ tbl := tbl_k tq_1 54 rfl rfl
theorem k_122 : (Cond.instantiable RX3 0) ∈ tbl := tbl_k tq_1 55 rfl rfl
theorem k_124 : (Cond.instanceMethod yX3_init) ∈ tbl := tbl_k tq_1 57 rfl rfl
theorem k_125 : (Cond.code yX3_init cX3_init 1 none) ∈ tbl := tbl_k tq_1 58 rfl rfl
theorem k_127 : (Cond.superclass RX3 RX0) ∈ tbl := tbl_k tq_1 60 rfl rfl
theorem k_128 : (Cond.classLink RX11 22 RX10) ∈ tbl := tbl_k tq_1 61 rfl rfl
theorem k_129 : (Cond.instantiable RX10 0) ∈ tbl := tbl_k tq_1 62 rfl rfl
theorem k_131 : (Cond.instanceMethod yX10_init) ∈ tbl := tbl_k tq_1 64 rfl rfl
theorem k_132 : (Cond.code yX10_init cX10_init 1 none) ∈ tbl := tbl_k tq_1 65 rfl rfl
theorem k_134 : (Cond.superclass RX10 RX2) ∈ tbl := tbl_k tq_1 67 rfl rfl
theorem k_135 : (Cond.classLink RX11 25 RX9) ∈ tbl := tbl_k tq_1 68 rfl rfl
theorem k_136 : (Cond.instantiable RX9 0) ∈ tbl := tbl_k tq_1 69 rfl rfl
theorem k_138 : (Cond.instanceMethod yX9_init) ∈ tbl := tbl_k tq_1 71 rfl rfl
theorem k_139 : (Cond.code yX9_init cX9_init 1 none) ∈ tbl := tbl_k tq_1 72 rfl rfl
theorem k_141 : (Cond.superclass RX9 RX7) ∈ tbl := tbl_k tq_1 74 rfl rfl
theorem k_142 : (Cond.classLink RX11 28 RX5) ∈ tbl := tbl_k tq_1 75 rfl rfl
theorem k_143 : (Cond.instantiable RX5 8) ∈ tbl := tbl_k tq_1 76 rfl rfl
theorem k_144 : (Cond.methodLink RX11 30 yX5_init) ∈ tbl := tbl_k tq_1 77 rfl rfl
theorem k_145 : (Cond.instanceMethod yX5_init) ∈ tbl := tbl_k tq_1 78 rfl rfl
theorem k_146 : (Cond.code yX5_init cX5_init 2 none) ∈ tbl := tbl_k tq_1 79 rfl rfl
theorem k_147 : (Cond.methodLink RX5 3 Lib.objectInit) ∈ tbl := tbl_k tq_1 80 rfl rfl
theorem k_148 : (Cond.classLink RX5 9 RX1) ∈ tbl := tbl_k tq_1 81 rfl rfl
theorem k_149 : (Cond.instantiable RX1 9) ∈ tbl := tbl_k tq_1 82 rfl rfl
theorem k_150 : (Cond.methodLink RX5 11 yX1_init) ∈ tbl := tbl_k tq_1 83 rfl rfl
theorem k_151 : (Cond.instanceMethod yX1_init) ∈ tbl := tbl_k tq_1 84 rfl rfl
theorem k_152 : (Cond.code yX1_init cX1_init 2 none) ∈ tbl := tbl_k tq_1 85 rfl rfl
theorem k_153 : (Cond.methodLink RX1 3 Lib.objectInit) ∈ tbl := tbl_k tq_1 86 rfl rfl
theorem k_154 : (Cond.fieldLink RX1 9 "StandStill$Law" "own" "C") ∈ tbl := tbl_k tq_1 87 rfl rfl
theorem k_155 : (Cond.fieldLink RX1 15 "StandStill$Law" "stack" "[I") ∈ tbl := tbl_k tq_1 88 rfl rfl
theorem k_156 : (Cond.fieldLink RX1 19 "StandStill$Law" "code" "[I") ∈ tbl := tbl_k tq_1 89 rfl rfl
theorem k_157 : (Cond.fieldLink RX1 31 "StandStill$Law" "length" "I") ∈ tbl := tbl_k tq_1 90 rfl rfl
theorem k_158 : (Cond.fieldLink RX1 22 "StandStill$Law" "draft" "[I") ∈ tbl := tbl_k tq_1 91 rfl rfl
theorem k_159 : (Cond.fieldLink RX1 55 "StandStill$Law" "drafted" "I") ∈ tbl := tbl_k tq_1 92 rfl rfl
theorem k_160 : (Cond.fieldLink RX1 39 "StandStill$Law" "tape" "[B") ∈ tbl := tbl_k tq_1 93 rfl rfl
theorem k_161 : (Cond.fieldLink RX1 49 "StandStill$Law" "size" "I") ∈ tbl := tbl_k tq_1 94 rfl rfl
theorem k_162 : (Cond.fieldLink RX1 52 "StandStill$Law" "place" "I") ∈ tbl := tbl_k tq_1 95 rfl rfl
theorem k_181 : (Cond.superclass RX1 "java/lang/Object") ∈ tbl := tbl_k tq_1 114 rfl rfl
theorem k_182 : (Cond.arrayClass .int) ∈ tbl := tbl_k tq_1 115 rfl rfl
theorem k_183 : (Cond.classLink RX5 23 RX4) ∈ tbl := tbl_k tq_1 116 rfl rfl
theorem k_184 : (Cond.instantiable RX4 10) ∈ tbl := tbl_k tq_1 117 rfl rfl
theorem k_185 : (Cond.methodLink RX5 25 yX4_init) ∈ tbl := tbl_k tq_1 118 rfl rfl
theorem k_186 : (Cond.instanceMethod yX4_init) ∈ tbl := tbl_k tq_1 119 rfl rfl
theorem k_187 : (Cond.code yX4_init cX4_init 5 none) ∈ tbl := tbl_k tq_1 120 rfl rfl
theorem k_188 : (Cond.methodLink RX4 3 Lib.objectInit) ∈ tbl := tbl_k tq_1 121 rfl rfl
theorem k_189 : (Cond.fieldLink RX4 22 "StandStill$Row" "kind" "[I") ∈ tbl := tbl_k tq_1 122 rfl rfl
theorem k_190 : (Cond.fieldLink RX11 103 "StandStill$Row" "kind" "[I") ∈ tbl := tbl_k tq_1 123 rfl rfl
theorem k_191 : (Cond.fieldLink RX4 26 "StandStill$Row" "m" "[I") ∈ tbl := tbl_k tq_1 124 rfl rfl
theorem k_192 : (Cond.fieldLink RX2 11 "StandStill$Row" "m" "[I") ∈ tbl := tbl_k tq_1 125 rfl rfl
theorem k_193 : (Cond.fieldLink RX3 11 "StandStill$Row" "m" "[I") ∈ tbl := tbl_k tq_1 126 rfl rfl
theorem k_194 : (Cond.fieldLink RX9 30 "StandStill$Row" "m" "[I") ∈ tbl := tbl_k tq_1 127 rfl rfl
theorem k_195 : (Cond.fieldLink RX11 106 "StandStill$Row" "m" "[I") ∈ tbl := tbl_k tq_1 128 rfl rfl
theorem k_196 : (Cond.fieldLink RX4 29 "StandStill$Row" "post" "[I") ∈ tbl := tbl_k tq_1 129 rfl rfl
theorem k_197 : (Cond.fieldLink RX11 141 "StandStill$Row" "post" "[I") ∈ tbl := tbl_k tq_1 130 rfl rfl
theorem k_198 : (Cond.fieldLink RX4 32 "StandStill$Row" "left" "[I") ∈ tbl := tbl_k tq_1 131 rfl rfl
theorem k_199 : (Cond.fieldLink RX9 26 "StandStill$Row" "left" "[I") ∈ tbl := tbl_k tq_1 132 rfl rfl
theorem k_200 : (Cond.fieldLink RX11 130 "StandStill$Row" "left" "[I") ∈ tbl := tbl_k tq_1 133 rfl rfl
theorem k_201 : (Cond.fieldLink RX4 35 "StandStill$Row" "out" "[I") ∈ tbl := tbl_k tq_1 134 rfl rfl
theorem k_202 : (Cond.fieldLink RX11 144 "StandStill$Row" "out" "[I") ∈ tbl := tbl_k tq_1 135 rfl rfl
theorem k_203 : (Cond.fieldLink RX4 38 "StandStill$Row" "sun" "I") ∈ tbl := tbl_k tq_1 136 rfl rfl
theorem k_204 : (Cond.fieldLink RX7 7 "StandStill$Row" "sun" "I") ∈ tbl := tbl_k tq_1 137 rfl rfl
theorem k_205 : (Cond.fieldLink RX9 22 "StandStill$Row" "sun" "I") ∈ tbl := tbl_k tq_1 138 rfl rfl
theorem k_206 : (Cond.fieldLink RX11 147 "StandStill$Row" "sun" "I") ∈ tbl := tbl_k tq_1 139 rfl rfl
theorem k_207 : (Cond.fieldLink RX4 48 "StandStill$Row" "minute" "I") ∈ tbl := tbl_k tq_1 140 rfl rfl
theorem k_208 : (Cond.fieldLink RX11 180 "StandStill$Row" "minute" "I") ∈ tbl := tbl_k tq_1 141 rfl rfl
theorem k_209 : (Cond.fieldLink RX4 15 "StandStill$Row" "spending" "LStandStill$Law;") ∈ tbl := tbl_k tq_1 142 rfl rfl
theorem k_210 : (Cond.fieldLink RX9 7 "StandStill$Row" "spending" "LStandStill$Law;") ∈ tbl := tbl_k tq_1 143 rfl rfl
theorem k_211 : (Cond.fieldLink RX4 19 "StandStill$Row" "shock" "LStandStill$Law;") ∈ tbl := tbl_k tq_1 144 rfl rfl
theorem k_212 : (Cond.fieldLink RX4 9 "StandStill$Row" "kinds" "[LStandStill$Stander;") ∈ tbl := tbl_k tq_1 145 rfl rfl
theorem k_233 : (Cond.superclass RX4 "java/lang/Object") ∈ tbl := tbl_k tq_1 166 rfl rfl
theorem k_234 : (Cond.fieldLink RX5 14 "StandStill$Scene" "spending" "LStandStill$Law;") ∈ tbl := tbl_k tq_1 167 rfl rfl
theorem k_235 : (Cond.fieldLink RX11 44 "StandStill$Scene" "spending" "LStandStill$Law;") ∈ tbl := tbl_k tq_1 168 rfl rfl
theorem k_236 : (Cond.fieldLink RX5 20 "StandStill$Scene" "shock" "LStandStill$Law;") ∈ tbl := tbl_k tq_1 169 rfl rfl
theorem k_237 : (Cond.fieldLink RX11 48 "StandStill$Scene" "shock" "LStandStill$Law;") ∈ tbl := tbl_k tq_1 170 rfl rfl
theorem k_238 : (Cond.fieldLink RX5 28 "StandStill$Scene" "row" "LStandStill$Row;") ∈ tbl := tbl_k tq_1 171 rfl rfl
theorem k_239 : (Cond.fieldLink RX11 100 "StandStill$Scene" "row" "LStandStill$Row;") ∈ tbl := tbl_k tq_1 172 rfl rfl
theorem k_240 : (Cond.fieldLink RX5 32 "StandStill$Scene" "tape" "[B") ∈ tbl := tbl_k tq_1 173 rfl rfl
theorem k_241 : (Cond.fieldLink RX11 159 "StandStill$Scene" "tape" "[B") ∈ tbl := tbl_k tq_1 174 rfl rfl
theorem k_242 : (Cond.fieldLink RX5 36 "StandStill$Scene" "waits" "[I") ∈ tbl := tbl_k tq_1 175 rfl rfl
theorem k_243 : (Cond.fieldLink RX11 291 "StandStill$Scene" "waits" "[I") ∈ tbl := tbl_k tq_1 176 rfl rfl
theorem k_244 : (Cond.fieldLink RX5 57 "StandStill$Scene" "fed" "I") ∈ tbl := tbl_k tq_1 177 rfl rfl
theorem k_245 : (Cond.fieldLink RX11 156 "StandStill$Scene" "fed" "I") ∈ tbl := tbl_k tq_1 178 rfl rfl
theorem k_246 : (Cond.fieldLink RX5 60 "StandStill$Scene" "waiting" "I") ∈ tbl := tbl_k tq_1 179 rfl rfl
theorem k_247 : (Cond.fieldLink RX11 288 "StandStill$Scene" "waiting" "I") ∈ tbl := tbl_k tq_1 180 rfl rfl
theorem k_248 : (Cond.fieldLink RX5 40 "StandStill$Scene" "z" "I") ∈ tbl := tbl_k tq_1 181 rfl rfl
theorem k_249 : (Cond.fieldLink RX11 195 "StandStill$Scene" "z" "I") ∈ tbl := tbl_k tq_1 182 rfl rfl
theorem k_266 : (Cond.superclass RX5 "java/lang/Object") ∈ tbl := tbl_k tq_1 199 rfl rfl
theorem k_267 : (Cond.arrayClass .byte) ∈ tbl := tbl_k tq_1 200 rfl rfl
theorem k_268 : (Cond.classLink RX11 42 RX4) ∈ tbl := tbl_k tq_1 201 rfl rfl
theorem k_269 : (Cond.methodLink RX11 51 yX4_init) ∈ tbl := tbl_k tq_1 202 rfl rfl
theorem k_271 : (Cond.classLink RX11 62 RX6) ∈ tbl := tbl_k tq_1 204 rfl rfl
theorem k_272 : (Cond.instantiable RX6 7) ∈ tbl := tbl_k tq_1 205 rfl rfl
theorem k_273 : (Cond.methodLink RX11 64 yX6_init) ∈ tbl := tbl_k tq_1 206 rfl rfl
theorem k_274 : (Cond.instanceMethod yX6_init) ∈ tbl := tbl_k tq_1 207 rfl rfl
theorem k_275 : (Cond.code yX6_init cX6_init 1 none) ∈ tbl := tbl_k tq_1 208 rfl rfl
theorem k_276 : (Cond.methodLink RX6 3 Lib.objectInit) ∈ tbl := tbl_k tq_1 209 rfl rfl
theorem k_277 : (Cond.fieldLink RX6 18 "StandStill$Speaker" "k" "I") ∈ tbl := tbl_k tq_1 210 rfl rfl
theorem k_278 : (Cond.fieldLink RX7 19 "StandStill$Speaker" "k" "I") ∈ tbl := tbl_k tq_1 211 rfl rfl
theorem k_279 : (Cond.fieldLink RX3 34 "StandStill$Speaker" "k" "I") ∈ tbl := tbl_k tq_1 212 rfl rfl
theorem k_280 : (Cond.fieldLink RX6 22 "StandStill$Speaker" "m" "I") ∈ tbl := tbl_k tq_1 213 rfl rfl
theorem k_281 : (Cond.fieldLink RX9 47 "StandStill$Speaker" "m" "I") ∈ tbl := tbl_k tq_1 214 rfl rfl
theorem k_282 : (Cond.fieldLink RX7 31 "StandStill$Speaker" "m" "I") ∈ tbl := tbl_k tq_1 215 rfl rfl
theorem k_283 : (Cond.fieldLink RX6 25 "StandStill$Speaker" "parted" "Z") ∈ tbl := tbl_k tq_1 216 rfl rfl
theorem k_284 : (Cond.fieldLink RX0 20 "StandStill$Speaker" "parted" "Z") ∈ tbl := tbl_k tq_1 217 rfl rfl
theorem k_285 : (Cond.fieldLink RX7 34 "StandStill$Speaker" "parted" "Z") ∈ tbl := tbl_k tq_1 218 rfl rfl
theorem k_286 : (Cond.fieldLink RX11 254 "StandStill$Speaker" "parted" "Z") ∈ tbl := tbl_k tq_1 219 rfl rfl
theorem k_287 : (Cond.fieldLink RX6 38 "StandStill$Speaker" "traced" "I") ∈ tbl := tbl_k tq_1 220 rfl rfl
theorem k_288 : (Cond.fieldLink RX11 261 "StandStill$Speaker" "traced" "I") ∈ tbl := tbl_k tq_1 221 rfl rfl
theorem k_289 : (Cond.fieldLink RX6 9 "StandStill$Speaker" "trace" "[I") ∈ tbl := tbl_k tq_1 222 rfl rfl
theorem k_290 : (Cond.fieldLink RX11 264 "StandStill$Speaker" "trace" "[I") ∈ tbl := tbl_k tq_1 223 rfl rfl
theorem k_291 : (Cond.fieldLink RX6 15 "StandStill$Speaker" "begun" "[I") ∈ tbl := tbl_k tq_1 224 rfl rfl
theorem k_292 : (Cond.fieldLink RX6 29 "StandStill$Speaker" "beginnings" "I") ∈ tbl := tbl_k tq_1 225 rfl rfl
theorem k_307 : (Cond.superclass RX6 "java/lang/Object") ∈ tbl := tbl_k tq_2 0 rfl rfl
theorem k_308 : (Cond.classLink RX11 69 "[[I") ∈ tbl := tbl_k tq_2 1 rfl rfl
theorem k_310 : (Cond.fieldLink RX11 33 "StandStill" "now" "LStandStill$Scene;") ∈ tbl := tbl_k tq_2 3 rfl rfl
theorem k_311 : (Cond.fieldLink RX11 39 "StandStill" "kept" "LStandStill$Scene;") ∈ tbl := tbl_k tq_2 4 rfl rfl
theorem k_312 : (Cond.fieldLink RX11 54 "StandStill" "ahead" "LStandStill$Row;") ∈ tbl := tbl_k tq_2 5 rfl rfl
theorem k_313 : (Cond.fieldLink RX11 58 "StandStill" "steps" "[LStandStill$Row;") ∈ tbl := tbl_k tq_2 6 rfl rfl
theorem k_314 : (Cond.fieldLink RX11 65 "StandStill" "speaker" "LStandStill$Speaker;") ∈ tbl := tbl_k tq_2 7 rfl rfl
theorem k_315 : (Cond.fieldLink RX11 71 "StandStill" "sheets" "[[I") ∈ tbl := tbl_k tq_2 8 rfl rfl
theorem k_316 : (Cond.fieldLink RX11 74 "StandStill" "bitsOf" "[I") ∈ tbl := tbl_k tq_2 9 rfl rfl
theorem k_317 : (Cond.fieldLink RX11 78 "StandStill" "sizeOf" "[I") ∈ tbl := tbl_k tq_2 10 rfl rfl
theorem k_318 : (Cond.fieldLink RX11 81 "StandStill" "errors" "[I") ∈ tbl := tbl_k tq_2 11 rfl rfl
theorem k_319 : (Cond.fieldLink RX11 84 "StandStill" "images" "I") ∈ tbl := tbl_k tq_2 12 rfl rfl
theorem k_340 : (Cond.superclass RX11 "java/lang/Object") ∈ tbl := tbl_k tq_2 33 rfl rfl
theorem k_341 : (Cond.methodLink RL 13 yX11_stander) ∈ tbl := tbl_k tq_2 34 rfl rfl
theorem k_342 : (Cond.instanceMethod yX11_stander) ∈ tbl := tbl_k tq_2 35 rfl rfl
theorem k_343 : (Cond.selects RX11 yX11_stander yX11_stander) ∈ tbl := tbl_k tq_2 36 rfl rfl
theorem k_344 : (Cond.code yX11_stander cX11_stander 4 (some (.int))) ∈ tbl := tbl_k tq_2 37 rfl rfl
theorem k_345 : (Cond.methodLink RX11 88 yX11_isStander) ∈ tbl := tbl_k tq_2 38 rfl rfl
theorem k_346 : (Cond.static yX11_isStander) ∈ tbl := tbl_k tq_2 39 rfl rfl
theorem k_347 : (Cond.code yX11_isStander cX11_isStander 1 (some (.boolean))) ∈ tbl := tbl_k tq_2 40 rfl rfl
theorem k_348 : (Cond.methodLink RX11 92 yX11_within) ∈ tbl := tbl_k tq_2 41 rfl rfl
theorem k_349 : (Cond.static yX11_within) ∈ tbl := tbl_k tq_2 42 rfl rfl
theorem k_350 : (Cond.code yX11_within cX11_within 3 (some (.boolean))) ∈ tbl := tbl_k tq_2 43 rfl rfl
theorem k_351 : (Cond.methodLink RX11 96 yX11_fails) ∈ tbl := tbl_k tq_2 44 rfl rfl
theorem k_353 : (Cond.instanceMethod yX11_fails) ∈ tbl := tbl_k tq_2 46 rfl rfl
theorem k_354 : (Cond.code yX11_fails cX11_fails 2 (some (.int))) ∈ tbl := tbl_k tq_2 47 rfl rfl
theorem k_355 : (Cond.constant RX11 297 (-1000000000)) ∈ tbl := tbl_k tq_2 48 rfl rfl
theorem k_356 : (Cond.methodLink RL 18 yX11_standerIs) ∈ tbl := tbl_k tq_2 49 rfl rfl
theorem k_357 : (Cond.instanceMethod yX11_standerIs) ∈ tbl := tbl_k tq_2 50 rfl rfl
theorem k_358 : (Cond.selects RX11 yX11_standerIs yX11_standerIs) ∈ tbl := tbl_k tq_2 51 rfl rfl
theorem k_359 : (Cond.code yX11_standerIs cX11_standerIs 3 (some (.int))) ∈ tbl := tbl_k tq_2 52 rfl rfl
theorem k_360 : (Cond.methodLink RX11 109 yX4_spends) ∈ tbl := tbl_k tq_2 53 rfl rfl
theorem k_361 : (Cond.instanceMethod yX4_spends) ∈ tbl := tbl_k tq_2 54 rfl rfl
theorem k_362 : (Cond.selects RX4 yX4_spends yX4_spends) ∈ tbl := tbl_k tq_2 55 rfl rfl
theorem k_363 : (Cond.code yX4_spends cX4_spends 2 (some (.int))) ∈ tbl := tbl_k tq_2 56 rfl rfl
theorem k_364 : (Cond.methodLink RX4 51 yX4_kindOf) ∈ tbl := tbl_k tq_2 57 rfl rfl
theorem k_365 : (Cond.instanceMethod yX4_kindOf) ∈ tbl := tbl_k tq_2 58 rfl rfl
theorem k_366 : (Cond.selects RX4 yX4_kindOf yX4_kindOf) ∈ tbl := tbl_k tq_2 59 rfl rfl
theorem k_367 : (Cond.code yX4_kindOf cX4_kindOf 2 (some (.object "StandStill$Stander"))) ∈ tbl := tbl_k tq_2 60 rfl rfl
theorem k_368 : (Cond.methodLink RX4 55 yX7_spending) ∈ tbl := tbl_k tq_2 61 rfl rfl
theorem k_369 : (Cond.instanceMethod yX7_spending) ∈ tbl := tbl_k tq_2 62 rfl rfl
theorem k_370 : (Cond.selects RX7 yX7_spending yX7_spending) ∈ tbl := tbl_k tq_2 63 rfl rfl
theorem k_371 : (Cond.sameMethod RX7 RX7 "spending" "(LStandStill$Row;I)I") ∈ tbl := tbl_k tq_2 64 rfl rfl
theorem k_372 : (Cond.selects RX0 yX7_spending yX0_spending) ∈ tbl := tbl_k tq_2 65 rfl rfl
theorem k_373 : (Cond.instanceMethod yX0_spending) ∈ tbl := tbl_k tq_2 66 rfl rfl
theorem k_374 : (Cond.code yX0_spending cX0_spending 3 (some (.int))) ∈ tbl := tbl_k tq_2 67 rfl rfl
theorem k_375 : (Cond.selects RX2 yX7_spending yX2_spending) ∈ tbl := tbl_k tq_2 68 rfl rfl
theorem k_376 : (Cond.instanceMethod yX2_spending) ∈ tbl := tbl_k tq_2 69 rfl rfl
theorem k_377 : (Cond.code yX2_spending cX2_spending 3 (some (.int))) ∈ tbl := tbl_k tq_2 70 rfl rfl
theorem k_378 : (Cond.methodLink RX2 7 yX7_spending) ∈ tbl := tbl_k tq_2 71 rfl rfl
theorem k_379 : (Cond.selects RX3 yX7_spending yX3_spending) ∈ tbl := tbl_k tq_2 72 rfl rfl
theorem k_380 : (Cond.instanceMethod yX3_spending) ∈ tbl := tbl_k tq_2 73 rfl rfl
theorem k_381 : (Cond.code yX3_spending cX3_spending 3 (some (.int))) ∈ tbl := tbl_k tq_2 74 rfl rfl
theorem k_382 : (Cond.methodLink RX3 7 yX0_spending) ∈ tbl := tbl_k tq_2 75 rfl rfl
theorem k_383 : (Cond.selects RX8 yX7_spending yX7_spending) ∈ tbl := tbl_k tq_2 76 rfl rfl
theorem k_384 : (Cond.selects RX9 yX7_spending yX9_spending) ∈ tbl := tbl_k tq_2 77 rfl rfl
theorem k_385 : (Cond.instanceMethod yX9_spending) ∈ tbl := tbl_k tq_2 78 rfl rfl
theorem k_386 : (Cond.code yX9_spending cX9_spending 4 (some (.int))) ∈ tbl := tbl_k tq_2 79 rfl rfl
theorem k_387 : (Cond.methodLink RX9 13 yX1_isMissing) ∈ tbl := tbl_k tq_2 80 rfl rfl
theorem k_388 : (Cond.instanceMethod yX1_isMissing) ∈ tbl := tbl_k tq_2 81 rfl rfl
theorem k_389 : (Cond.selects RX1 yX1_isMissing yX1_isMissing) ∈ tbl := tbl_k tq_2 82 rfl rfl
theorem k_390 : (Cond.code yX1_isMissing cX1_isMissing 1 (some (.boolean))) ∈ tbl := tbl_k tq_2 83 rfl rfl
theorem k_391 : (Cond.methodLink RX9 19 yX7_spending) ∈ tbl := tbl_k tq_2 84 rfl rfl
theorem k_392 : (Cond.methodLink RX9 33 yX1_gives) ∈ tbl := tbl_k tq_2 85 rfl rfl
theorem k_393 : (Cond.instanceMethod yX1_gives) ∈ tbl := tbl_k tq_2 86 rfl rfl
theorem k_394 : (Cond.selects RX1 yX1_gives yX1_gives) ∈ tbl := tbl_k tq_2 87 rfl rfl
theorem k_395 : (Cond.code yX1_gives cX1_gives 7 (some (.int))) ∈ tbl := tbl_k tq_2 88 rfl rfl
theorem k_396 : (Cond.methodLink RX1 35 yX1_joined) ∈ tbl := tbl_k tq_2 89 rfl rfl
theorem k_397 : (Cond.static yX1_joined) ∈ tbl := tbl_k tq_2 90 rfl rfl
theorem k_398 : (Cond.code yX1_joined cX1_joined 3 (some (.int))) ∈ tbl := tbl_k tq_2 91 rfl rfl
theorem k_399 : (Cond.selects RX10 yX7_spending yX2_spending) ∈ tbl := tbl_k tq_2 92 rfl rfl
theorem k_400 : (Cond.code yX7_spending cX7_spending 3 (some (.int))) ∈ tbl := tbl_k tq_2 93 rfl rfl
theorem k_401 : (Cond.methodLink RX4 60 yX4_held) ∈ tbl := tbl_k tq_2 94 rfl rfl
theorem k_402 : (Cond.static yX4_held) ∈ tbl := tbl_k tq_2 95 rfl rfl
theorem k_403 : (Cond.code yX4_held cX4_held 1 (some (.int))) ∈ tbl := tbl_k tq_2 96 rfl rfl
theorem k_404 : (Cond.methodLink RX4 125 Lib.Math.min.name) ∈ tbl := tbl_k tq_2 97 rfl rfl
theorem k_405 : (Cond.static Lib.Math.min.name) ∈ tbl := tbl_k tq_2 98 rfl rfl
theorem k_406 : (Cond.code Lib.Math.min.name Lib.Math.min.code 2 (some (.int))) ∈ tbl := tbl_k tq_2 99 rfl rfl
theorem k_407 : (Cond.methodLink RX4 121 Lib.Math.max.name) ∈ tbl := tbl_k tq_2 100 rfl rfl
theorem k_408 : (Cond.static Lib.Math.max.name) ∈ tbl := tbl_k tq_2 101 rfl rfl
theorem k_409 : (Cond.code Lib.Math.max.name Lib.Math.max.code 2 (some (.int))) ∈ tbl := tbl_k tq_2 102 rfl rfl
theorem k_410 : (Cond.methodLink RX11 112 yX4_bite) ∈ tbl := tbl_k tq_2 103 rfl rfl
theorem k_411 : (Cond.instanceMethod yX4_bite) ∈ tbl := tbl_k tq_2 104 rfl rfl
theorem k_412 : (Cond.selects RX4 yX4_bite yX4_bite) ∈ tbl := tbl_k tq_2 105 rfl rfl
theorem k_413 : (Cond.code yX4_bite cX4_bite 2 (some (.int))) ∈ tbl := tbl_k tq_2 106 rfl rfl
theorem k_414 : (Cond.methodLink RX4 64 yX7_biting) ∈ tbl := tbl_k tq_2 107 rfl rfl
theorem k_415 : (Cond.instanceMethod yX7_biting) ∈ tbl := tbl_k tq_2 108 rfl rfl
theorem k_416 : (Cond.selects RX7 yX7_biting yX7_biting) ∈ tbl := tbl_k tq_2 109 rfl rfl
theorem k_417 : (Cond.sameMethod RX7 RX7 "biting" "(I)I") ∈ tbl := tbl_k tq_2 110 rfl rfl
theorem k_418 : (Cond.selects RX0 yX7_biting yX0_biting) ∈ tbl := tbl_k tq_2 111 rfl rfl
theorem k_419 : (Cond.instanceMethod yX0_biting) ∈ tbl := tbl_k tq_2 112 rfl rfl
theorem k_420 : (Cond.code yX0_biting cX0_biting 2 (some (.int))) ∈ tbl := tbl_k tq_2 113 rfl rfl
theorem k_421 : (Cond.selects RX2 yX7_biting yX7_biting) ∈ tbl := tbl_k tq_2 114 rfl rfl
theorem k_422 : (Cond.selects RX3 yX7_biting yX3_biting) ∈ tbl := tbl_k tq_2 115 rfl rfl
theorem k_423 : (Cond.instanceMethod yX3_biting) ∈ tbl := tbl_k tq_2 116 rfl rfl
theorem k_424 : (Cond.code yX3_biting cX3_biting 2 (some (.int))) ∈ tbl := tbl_k tq_2 117 rfl rfl
theorem k_425 : (Cond.methodLink RX3 17 yX0_biting) ∈ tbl := tbl_k tq_2 118 rfl rfl
theorem k_426 : (Cond.selects RX8 yX7_biting yX8_biting) ∈ tbl := tbl_k tq_2 119 rfl rfl
theorem k_427 : (Cond.instanceMethod yX8_biting) ∈ tbl := tbl_k tq_2 120 rfl rfl
theorem k_428 : (Cond.code yX8_biting cX8_biting 2 (some (.int))) ∈ tbl := tbl_k tq_2 121 rfl rfl
theorem k_429 : (Cond.methodLink RX8 7 yX7_biting) ∈ tbl := tbl_k tq_2 122 rfl rfl
theorem k_430 : (Cond.selects RX9 yX7_biting yX7_biting) ∈ tbl := tbl_k tq_2 123 rfl rfl
theorem k_431 : (Cond.selects RX10 yX7_biting yX10_biting) ∈ tbl := tbl_k tq_2 124 rfl rfl
theorem k_432 : (Cond.instanceMethod yX10_biting) ∈ tbl := tbl_k tq_2 125 rfl rfl
theorem k_433 : (Cond.code yX10_biting cX10_biting 2 (some (.int))) ∈ tbl := tbl_k tq_2 126 rfl rfl
theorem k_434 : (Cond.methodLink RX10 7 ⟨"StandStill$Leaning", "biting", "(I)I"⟩) ∈ tbl := tbl_k tq_2 127 rfl rfl
theorem k_435 : (Cond.sameMethod RX2 RX7 "biting" "(I)I") ∈ tbl := tbl_k tq_2 128 rfl rfl
theorem k_437 : (Cond.code yX7_biting cX7_biting 2 (some (.int))) ∈ tbl := tbl_k tq_2 130 rfl rfl
theorem k_438 : (Cond.methodLink RX11 115 yX4_is) ∈ tbl := tbl_k tq_2 131 rfl rfl
theorem k_439 : (Cond.instanceMethod yX4_is) ∈ tbl := tbl_k tq_2 132 rfl rfl
theorem k_440 : (Cond.selects RX4 yX4_is yX4_is) ∈ tbl := tbl_k tq_2 133 rfl rfl
theorem k_441 : (Cond.code yX4_is cX4_is 3 (some (.int))) ∈ tbl := tbl_k tq_2 134 rfl rfl
theorem k_442 : (Cond.methodLink RL 22 yX11_as) ∈ tbl := tbl_k tq_2 135 rfl rfl
theorem k_443 : (Cond.instanceMethod yX11_as) ∈ tbl := tbl_k tq_2 136 rfl rfl
theorem k_444 : (Cond.selects RX11 yX11_as yX11_as) ∈ tbl := tbl_k tq_2 137 rfl rfl
theorem k_445 : (Cond.code yX11_as cX11_as 3 (some (.int))) ∈ tbl := tbl_k tq_2 138 rfl rfl
theorem k_446 : (Cond.methodLink RX11 119 yX4_kindOf) ∈ tbl := tbl_k tq_2 139 rfl rfl
theorem k_447 : (Cond.methodLink RX11 123 yX11_isOf) ∈ tbl := tbl_k tq_2 140 rfl rfl
theorem k_448 : (Cond.static yX11_isOf) ∈ tbl := tbl_k tq_2 141 rfl rfl
theorem k_449 : (Cond.code yX11_isOf cX11_isOf 2 (some (.boolean))) ∈ tbl := tbl_k tq_2 142 rfl rfl
theorem k_450 : (Cond.methodLink RL 26 yX11_patience) ∈ tbl := tbl_k tq_2 143 rfl rfl
theorem k_451 : (Cond.instanceMethod yX11_patience) ∈ tbl := tbl_k tq_2 144 rfl rfl
theorem k_452 : (Cond.selects RX11 yX11_patience yX11_patience) ∈ tbl := tbl_k tq_2 145 rfl rfl
theorem k_453 : (Cond.code yX11_patience cX11_patience 4 (some (.int))) ∈ tbl := tbl_k tq_2 146 rfl rfl
theorem k_454 : (Cond.methodLink RX11 127 yX4_stands) ∈ tbl := tbl_k tq_2 147 rfl rfl
theorem k_455 : (Cond.instanceMethod yX4_stands) ∈ tbl := tbl_k tq_2 148 rfl rfl
theorem k_456 : (Cond.selects RX4 yX4_stands yX4_stands) ∈ tbl := tbl_k tq_2 149 rfl rfl
theorem k_457 : (Cond.code yX4_stands cX4_stands 2 (some (.boolean))) ∈ tbl := tbl_k tq_2 150 rfl rfl
theorem k_458 : (Cond.methodLink RX11 133 yX4_settle) ∈ tbl := tbl_k tq_2 151 rfl rfl
theorem k_459 : (Cond.instanceMethod yX4_settle) ∈ tbl := tbl_k tq_2 152 rfl rfl
theorem k_460 : (Cond.selects RX4 yX4_settle yX4_settle) ∈ tbl := tbl_k tq_2 153 rfl rfl
theorem k_461 : (Cond.code yX4_settle cX4_settle 3 (some (.int))) ∈ tbl := tbl_k tq_2 154 rfl rfl
theorem k_462 : (Cond.methodLink RX4 99 yX4_leastAtZero) ∈ tbl := tbl_k tq_2 155 rfl rfl
theorem k_464 : (Cond.instanceMethod yX4_leastAtZero) ∈ tbl := tbl_k tq_2 157 rfl rfl
theorem k_465 : (Cond.code yX4_leastAtZero cX4_leastAtZero 2 (some (.int))) ∈ tbl := tbl_k tq_2 158 rfl rfl
theorem k_466 : (Cond.methodLink RX4 67 yX4_stands) ∈ tbl := tbl_k tq_2 159 rfl rfl
theorem k_467 : (Cond.methodLink RX4 102 yX4_stir) ∈ tbl := tbl_k tq_2 160 rfl rfl
theorem k_469 : (Cond.instanceMethod yX4_stir) ∈ tbl := tbl_k tq_2 162 rfl rfl
theorem k_470 : (Cond.code yX4_stir cX4_stir 4 none) ∈ tbl := tbl_k tq_2 163 rfl rfl
theorem k_471 : (Cond.methodLink RX4 106 Lib.Math.abs.name) ∈ tbl := tbl_k tq_2 164 rfl rfl
theorem k_472 : (Cond.static Lib.Math.abs.name) ∈ tbl := tbl_k tq_2 165 rfl rfl
theorem k_473 : (Cond.code Lib.Math.abs.name Lib.Math.abs.code 1 (some (.int))) ∈ tbl := tbl_k tq_2 166 rfl rfl
theorem k_474 : (Cond.methodLink RX4 111 yX1_isMissing) ∈ tbl := tbl_k tq_2 167 rfl rfl
theorem k_475 : (Cond.methodLink RX4 117 yX1_gives) ∈ tbl := tbl_k tq_2 168 rfl rfl
theorem k_476 : (Cond.methodLink RX4 86 yX4_lessen) ∈ tbl := tbl_k tq_2 169 rfl rfl
theorem k_478 : (Cond.instanceMethod yX4_lessen) ∈ tbl := tbl_k tq_2 171 rfl rfl
theorem k_479 : (Cond.code yX4_lessen cX4_lessen 3 none) ∈ tbl := tbl_k tq_2 172 rfl rfl
theorem k_480 : (Cond.methodLink RL 30 yX11_swap) ∈ tbl := tbl_k tq_2 173 rfl rfl
theorem k_481 : (Cond.instanceMethod yX11_swap) ∈ tbl := tbl_k tq_2 174 rfl rfl
theorem k_482 : (Cond.selects RX11 yX11_swap yX11_swap) ∈ tbl := tbl_k tq_2 175 rfl rfl
theorem k_483 : (Cond.code yX11_swap cX11_swap 3 (some (.int))) ∈ tbl := tbl_k tq_2 176 rfl rfl
theorem k_484 : (Cond.methodLink RX11 137 yX4_changePosts) ∈ tbl := tbl_k tq_2 177 rfl rfl
theorem k_485 : (Cond.instanceMethod yX4_changePosts) ∈ tbl := tbl_k tq_2 178 rfl rfl
theorem k_486 : (Cond.selects RX4 yX4_changePosts yX4_changePosts) ∈ tbl := tbl_k tq_2 179 rfl rfl
theorem k_487 : (Cond.code yX4_changePosts cX4_changePosts 4 none) ∈ tbl := tbl_k tq_2 180 rfl rfl
theorem k_488 : (Cond.methodLink RL 34 yX11_again) ∈ tbl := tbl_k tq_2 181 rfl rfl
theorem k_489 : (Cond.instanceMethod yX11_again) ∈ tbl := tbl_k tq_2 182 rfl rfl
theorem k_490 : (Cond.selects RX11 yX11_again yX11_again) ∈ tbl := tbl_k tq_2 183 rfl rfl
theorem k_491 : (Cond.code yX11_again cX11_again 3 (some (.int))) ∈ tbl := tbl_k tq_2 184 rfl rfl
theorem k_492 : (Cond.methodLink RL 38 yX11_sun) ∈ tbl := tbl_k tq_2 185 rfl rfl
theorem k_493 : (Cond.instanceMethod yX11_sun) ∈ tbl := tbl_k tq_2 186 rfl rfl
theorem k_494 : (Cond.selects RX11 yX11_sun yX11_sun) ∈ tbl := tbl_k tq_2 187 rfl rfl
theorem k_495 : (Cond.code yX11_sun cX11_sun 3 (some (.int))) ∈ tbl := tbl_k tq_2 188 rfl rfl
theorem k_496 : (Cond.methodLink RL 43 yX11_at) ∈ tbl := tbl_k tq_2 189 rfl rfl
theorem k_497 : (Cond.instanceMethod yX11_at) ∈ tbl := tbl_k tq_2 190 rfl rfl
theorem k_498 : (Cond.selects RX11 yX11_at yX11_at) ∈ tbl := tbl_k tq_2 191 rfl rfl
theorem k_499 : (Cond.code yX11_at cX11_at 2 (some (.int))) ∈ tbl := tbl_k tq_2 192 rfl rfl
theorem k_500 : (Cond.methodLink RX11 150 yX11_isPost) ∈ tbl := tbl_k tq_2 193 rfl rfl
theorem k_501 : (Cond.static yX11_isPost) ∈ tbl := tbl_k tq_2 194 rfl rfl
theorem k_502 : (Cond.code yX11_isPost cX11_isPost 1 (some (.boolean))) ∈ tbl := tbl_k tq_2 195 rfl rfl
theorem k_503 : (Cond.methodLink RX11 153 yX4_whoIsAt) ∈ tbl := tbl_k tq_2 196 rfl rfl
theorem k_504 : (Cond.instanceMethod yX4_whoIsAt) ∈ tbl := tbl_k tq_2 197 rfl rfl
theorem k_505 : (Cond.selects RX4 yX4_whoIsAt yX4_whoIsAt) ∈ tbl := tbl_k tq_2 198 rfl rfl
theorem k_506 : (Cond.code yX4_whoIsAt cX4_whoIsAt 3 (some (.int))) ∈ tbl := tbl_k tq_2 199 rfl rfl
theorem k_507 : (Cond.methodLink RL 49 yX11_feed) ∈ tbl := tbl_k tq_2 200 rfl rfl
theorem k_508 : (Cond.instanceMethod yX11_feed) ∈ tbl := tbl_k tq_2 201 rfl rfl
theorem k_509 : (Cond.selects RX11 yX11_feed yX11_feed) ∈ tbl := tbl_k tq_2 202 rfl rfl
theorem k_510 : (Cond.code yX11_feed cX11_feed 5 (some (.int))) ∈ tbl := tbl_k tq_2 203 rfl rfl
theorem k_511 : (Cond.methodLink RL 54 yX11_text) ∈ tbl := tbl_k tq_2 204 rfl rfl
theorem k_512 : (Cond.instanceMethod yX11_text) ∈ tbl := tbl_k tq_2 205 rfl rfl
theorem k_513 : (Cond.selects RX11 yX11_text yX11_text) ∈ tbl := tbl_k tq_2 206 rfl rfl
theorem k_514 : (Cond.code yX11_text cX11_text 3 (some (.int))) ∈ tbl := tbl_k tq_2 207 rfl rfl
theorem k_515 : (Cond.methodLink RX11 163 yX5_lawOf) ∈ tbl := tbl_k tq_2 208 rfl rfl
theorem k_516 : (Cond.instanceMethod yX5_lawOf) ∈ tbl := tbl_k tq_2 209 rfl rfl
theorem k_517 : (Cond.selects RX5 yX5_lawOf yX5_lawOf) ∈ tbl := tbl_k tq_2 210 rfl rfl
theorem k_518 : (Cond.code yX5_lawOf cX5_lawOf 2 (some (.object "StandStill$Law"))) ∈ tbl := tbl_k tq_2 211 rfl rfl
theorem k_519 : (Cond.methodLink RX11 167 yX1_read) ∈ tbl := tbl_k tq_2 212 rfl rfl
theorem k_520 : (Cond.instanceMethod yX1_read) ∈ tbl := tbl_k tq_2 213 rfl rfl
theorem k_521 : (Cond.selects RX1 yX1_read yX1_read) ∈ tbl := tbl_k tq_2 214 rfl rfl
theorem k_522 : (Cond.code yX1_read cX1_read 4 (some (.int))) ∈ tbl := tbl_k tq_2 215 rfl rfl
theorem k_523 : (Cond.methodLink RX1 43 Lib.Math.min.name) ∈ tbl := tbl_k tq_2 216 rfl rfl
theorem k_524 : (Cond.methodLink RX1 58 yX1_readEither) ∈ tbl := tbl_k tq_2 217 rfl rfl
theorem k_526 : (Cond.instanceMethod yX1_readEither) ∈ tbl := tbl_k tq_2 219 rfl rfl
theorem k_527 : (Cond.code yX1_readEither cX1_readEither 4 (some (.boolean))) ∈ tbl := tbl_k tq_2 220 rfl rfl
theorem k_528 : (Cond.methodLink RX1 62 yX1_readBoth) ∈ tbl := tbl_k tq_2 221 rfl rfl
theorem k_530 : (Cond.instanceMethod yX1_readBoth) ∈ tbl := tbl_k tq_2 223 rfl rfl
theorem k_531 : (Cond.code yX1_readBoth cX1_readBoth 4 (some (.boolean))) ∈ tbl := tbl_k tq_2 224 rfl rfl
theorem k_532 : (Cond.methodLink RX1 73 yX1_readCompared) ∈ tbl := tbl_k tq_2 225 rfl rfl
theorem k_534 : (Cond.instanceMethod yX1_readCompared) ∈ tbl := tbl_k tq_2 227 rfl rfl
theorem k_535 : (Cond.code yX1_readCompared cX1_readCompared 4 (some (.boolean))) ∈ tbl := tbl_k tq_2 228 rfl rfl
theorem k_536 : (Cond.methodLink RX1 76 yX1_readSum) ∈ tbl := tbl_k tq_2 229 rfl rfl
theorem k_538 : (Cond.instanceMethod yX1_readSum) ∈ tbl := tbl_k tq_2 231 rfl rfl
theorem k_539 : (Cond.code yX1_readSum cX1_readSum 5 (some (.boolean))) ∈ tbl := tbl_k tq_2 232 rfl rfl
theorem k_540 : (Cond.methodLink RX1 83 yX1_readProduct) ∈ tbl := tbl_k tq_2 233 rfl rfl
theorem k_542 : (Cond.instanceMethod yX1_readProduct) ∈ tbl := tbl_k tq_2 235 rfl rfl
theorem k_543 : (Cond.code yX1_readProduct cX1_readProduct 5 (some (.boolean))) ∈ tbl := tbl_k tq_2 236 rfl rfl
theorem k_544 : (Cond.methodLink RX1 86 yX1_readUnit) ∈ tbl := tbl_k tq_2 237 rfl rfl
theorem k_546 : (Cond.instanceMethod yX1_readUnit) ∈ tbl := tbl_k tq_2 239 rfl rfl
theorem k_547 : (Cond.code yX1_readUnit cX1_readUnit 3 (some (.boolean))) ∈ tbl := tbl_k tq_3 0 rfl rfl
theorem k_548 : (Cond.methodLink RX1 89 yX1_seesDigit) ∈ tbl := tbl_k tq_3 1 rfl rfl
theorem k_550 : (Cond.instanceMethod yX1_seesDigit) ∈ tbl := tbl_k tq_3 3 rfl rfl
theorem k_551 : (Cond.code yX1_seesDigit cX1_seesDigit 1 (some (.boolean))) ∈ tbl := tbl_k tq_3 4 rfl rfl
theorem k_552 : (Cond.methodLink RX1 99 yX1_nextSign) ∈ tbl := tbl_k tq_3 5 rfl rfl
theorem k_554 : (Cond.instanceMethod yX1_nextSign) ∈ tbl := tbl_k tq_3 7 rfl rfl
theorem k_555 : (Cond.code yX1_nextSign cX1_nextSign 1 (some (.int))) ∈ tbl := tbl_k tq_3 8 rfl rfl
theorem k_556 : (Cond.methodLink RX1 93 yX1_readNumber) ∈ tbl := tbl_k tq_3 9 rfl rfl
theorem k_558 : (Cond.instanceMethod yX1_readNumber) ∈ tbl := tbl_k tq_3 11 rfl rfl
theorem k_559 : (Cond.code yX1_readNumber cX1_readNumber 3 none) ∈ tbl := tbl_k tq_3 12 rfl rfl
theorem k_560 : (Cond.methodLink RX1 79 yX1_takeSign) ∈ tbl := tbl_k tq_3 13 rfl rfl
theorem k_562 : (Cond.instanceMethod yX1_takeSign) ∈ tbl := tbl_k tq_3 15 rfl rfl
theorem k_563 : (Cond.code yX1_takeSign cX1_takeSign 2 (some (.int))) ∈ tbl := tbl_k tq_3 16 rfl rfl
theorem k_564 : (Cond.methodLink RX1 69 yX1_write) ∈ tbl := tbl_k tq_3 17 rfl rfl
theorem k_566 : (Cond.instanceMethod yX1_write) ∈ tbl := tbl_k tq_3 19 rfl rfl
theorem k_567 : (Cond.code yX1_write cX1_write 2 none) ∈ tbl := tbl_k tq_3 20 rfl rfl
theorem k_568 : (Cond.methodLink RX1 65 yX1_sees) ∈ tbl := tbl_k tq_3 21 rfl rfl
theorem k_570 : (Cond.instanceMethod yX1_sees) ∈ tbl := tbl_k tq_3 23 rfl rfl
theorem k_571 : (Cond.code yX1_sees cX1_sees 2 (some (.boolean))) ∈ tbl := tbl_k tq_3 24 rfl rfl
theorem k_572 : (Cond.methodLink RX1 96 yX1_readBracket) ∈ tbl := tbl_k tq_3 25 rfl rfl
theorem k_574 : (Cond.instanceMethod yX1_readBracket) ∈ tbl := tbl_k tq_3 27 rfl rfl
theorem k_575 : (Cond.code yX1_readBracket cX1_readBracket 2 (some (.boolean))) ∈ tbl := tbl_k tq_3 28 rfl rfl
theorem k_576 : (Cond.methodLink RL 58 yX11_untell) ∈ tbl := tbl_k tq_3 29 rfl rfl
theorem k_577 : (Cond.instanceMethod yX11_untell) ∈ tbl := tbl_k tq_3 30 rfl rfl
theorem k_578 : (Cond.selects RX11 yX11_untell yX11_untell) ∈ tbl := tbl_k tq_3 31 rfl rfl
theorem k_579 : (Cond.code yX11_untell cX11_untell 4 (some (.int))) ∈ tbl := tbl_k tq_3 32 rfl rfl
theorem k_580 : (Cond.methodLink RX11 173 yX1_isMissing) ∈ tbl := tbl_k tq_3 33 rfl rfl
theorem k_581 : (Cond.methodLink RX11 177 yX1_forget) ∈ tbl := tbl_k tq_3 34 rfl rfl
theorem k_582 : (Cond.instanceMethod yX1_forget) ∈ tbl := tbl_k tq_3 35 rfl rfl
theorem k_583 : (Cond.selects RX1 yX1_forget yX1_forget) ∈ tbl := tbl_k tq_3 36 rfl rfl
theorem k_584 : (Cond.code yX1_forget cX1_forget 1 none) ∈ tbl := tbl_k tq_3 37 rfl rfl
theorem k_585 : (Cond.methodLink RL 62 yX11_minutes) ∈ tbl := tbl_k tq_3 38 rfl rfl
theorem k_586 : (Cond.instanceMethod yX11_minutes) ∈ tbl := tbl_k tq_3 39 rfl rfl
theorem k_587 : (Cond.selects RX11 yX11_minutes yX11_minutes) ∈ tbl := tbl_k tq_3 40 rfl rfl
theorem k_588 : (Cond.code yX11_minutes cX11_minutes 2 (some (.int))) ∈ tbl := tbl_k tq_3 41 rfl rfl
theorem k_589 : (Cond.methodLink RX11 183 yX4_pass) ∈ tbl := tbl_k tq_3 42 rfl rfl
theorem k_590 : (Cond.instanceMethod yX4_pass) ∈ tbl := tbl_k tq_3 43 rfl rfl
theorem k_591 : (Cond.selects RX4 yX4_pass yX4_pass) ∈ tbl := tbl_k tq_3 44 rfl rfl
theorem k_592 : (Cond.code yX4_pass cX4_pass 4 (some (.int))) ∈ tbl := tbl_k tq_3 45 rfl rfl
theorem k_593 : (Cond.methodLink RX4 80 yX4_passMinute) ∈ tbl := tbl_k tq_3 46 rfl rfl
theorem k_594 : (Cond.instanceMethod yX4_passMinute) ∈ tbl := tbl_k tq_3 47 rfl rfl
theorem k_595 : (Cond.selects RX4 yX4_passMinute yX4_passMinute) ∈ tbl := tbl_k tq_3 48 rfl rfl
theorem k_596 : (Cond.code yX4_passMinute cX4_passMinute 2 (some (.int))) ∈ tbl := tbl_k tq_3 49 rfl rfl
theorem k_597 : (Cond.methodLink RX4 83 yX4_spends) ∈ tbl := tbl_k tq_3 50 rfl rfl
theorem k_598 : (Cond.methodLink RX4 90 yX4_settle) ∈ tbl := tbl_k tq_3 51 rfl rfl
theorem k_599 : (Cond.methodLink RL 66 yX11_fly) ∈ tbl := tbl_k tq_3 52 rfl rfl
theorem k_600 : (Cond.instanceMethod yX11_fly) ∈ tbl := tbl_k tq_3 53 rfl rfl
theorem k_601 : (Cond.selects RX11 yX11_fly yX11_fly) ∈ tbl := tbl_k tq_3 54 rfl rfl
theorem k_602 : (Cond.code yX11_fly cX11_fly 2 (some (.int))) ∈ tbl := tbl_k tq_3 55 rfl rfl
theorem k_603 : (Cond.methodLink RX11 186 yX4_flyAt) ∈ tbl := tbl_k tq_3 56 rfl rfl
theorem k_604 : (Cond.instanceMethod yX4_flyAt) ∈ tbl := tbl_k tq_3 57 rfl rfl
theorem k_605 : (Cond.selects RX4 yX4_flyAt yX4_flyAt) ∈ tbl := tbl_k tq_3 58 rfl rfl
theorem k_606 : (Cond.code yX4_flyAt cX4_flyAt 3 (some (.int))) ∈ tbl := tbl_k tq_3 59 rfl rfl
theorem k_607 : (Cond.methodLink RX4 93 yX4_whoIsAt) ∈ tbl := tbl_k tq_3 60 rfl rfl
theorem k_608 : (Cond.methodLink RX4 96 yX4_bite) ∈ tbl := tbl_k tq_3 61 rfl rfl
theorem k_609 : (Cond.methodLink RL 70 yX11_poke) ∈ tbl := tbl_k tq_3 62 rfl rfl
theorem k_610 : (Cond.instanceMethod yX11_poke) ∈ tbl := tbl_k tq_3 63 rfl rfl
theorem k_611 : (Cond.selects RX11 yX11_poke yX11_poke) ∈ tbl := tbl_k tq_3 64 rfl rfl
theorem k_612 : (Cond.code yX11_poke cX11_poke 2 (some (.int))) ∈ tbl := tbl_k tq_3 65 rfl rfl
theorem k_613 : (Cond.methodLink RX11 189 yX4_pokeOne) ∈ tbl := tbl_k tq_3 66 rfl rfl
theorem k_614 : (Cond.instanceMethod yX4_pokeOne) ∈ tbl := tbl_k tq_3 67 rfl rfl
theorem k_615 : (Cond.selects RX4 yX4_pokeOne yX4_pokeOne) ∈ tbl := tbl_k tq_3 68 rfl rfl
theorem k_616 : (Cond.code yX4_pokeOne cX4_pokeOne 2 (some (.int))) ∈ tbl := tbl_k tq_3 69 rfl rfl
theorem k_617 : (Cond.methodLink RL 74 yX11_draws) ∈ tbl := tbl_k tq_3 70 rfl rfl
theorem k_618 : (Cond.instanceMethod yX11_draws) ∈ tbl := tbl_k tq_3 71 rfl rfl
theorem k_619 : (Cond.selects RX11 yX11_draws yX11_draws) ∈ tbl := tbl_k tq_3 72 rfl rfl
theorem k_620 : (Cond.code yX11_draws cX11_draws 4 (some (.int))) ∈ tbl := tbl_k tq_3 73 rfl rfl
theorem k_621 : (Cond.methodLink RX11 192 yX5_draw) ∈ tbl := tbl_k tq_3 74 rfl rfl
theorem k_622 : (Cond.instanceMethod yX5_draw) ∈ tbl := tbl_k tq_3 75 rfl rfl
theorem k_623 : (Cond.selects RX5 yX5_draw yX5_draw) ∈ tbl := tbl_k tq_3 76 rfl rfl
theorem k_624 : (Cond.code yX5_draw cX5_draw 1 (some (.int))) ∈ tbl := tbl_k tq_3 77 rfl rfl
theorem k_625 : (Cond.constant RX5 63 (1103515245)) ∈ tbl := tbl_k tq_3 78 rfl rfl
theorem k_626 : (Cond.methodLink RL 78 yX11_seed) ∈ tbl := tbl_k tq_3 79 rfl rfl
theorem k_627 : (Cond.instanceMethod yX11_seed) ∈ tbl := tbl_k tq_3 80 rfl rfl
theorem k_628 : (Cond.selects RX11 yX11_seed yX11_seed) ∈ tbl := tbl_k tq_3 81 rfl rfl
theorem k_629 : (Cond.code yX11_seed cX11_seed 3 (some (.int))) ∈ tbl := tbl_k tq_3 82 rfl rfl
theorem k_630 : (Cond.methodLink RL 82 yX11_then) ∈ tbl := tbl_k tq_3 83 rfl rfl
theorem k_631 : (Cond.instanceMethod yX11_then) ∈ tbl := tbl_k tq_3 84 rfl rfl
theorem k_632 : (Cond.selects RX11 yX11_then yX11_then) ∈ tbl := tbl_k tq_3 85 rfl rfl
theorem k_633 : (Cond.code yX11_then cX11_then 4 (some (.int))) ∈ tbl := tbl_k tq_3 86 rfl rfl
theorem k_634 : (Cond.methodLink RX11 198 yX11_lookAhead) ∈ tbl := tbl_k tq_3 87 rfl rfl
theorem k_636 : (Cond.instanceMethod yX11_lookAhead) ∈ tbl := tbl_k tq_3 89 rfl rfl
theorem k_637 : (Cond.code yX11_lookAhead cX11_lookAhead 2 none) ∈ tbl := tbl_k tq_3 90 rfl rfl
theorem k_638 : (Cond.methodLink RX11 205 yX4_copyFrom) ∈ tbl := tbl_k tq_3 91 rfl rfl
theorem k_639 : (Cond.instanceMethod yX4_copyFrom) ∈ tbl := tbl_k tq_3 92 rfl rfl
theorem k_640 : (Cond.selects RX4 yX4_copyFrom yX4_copyFrom) ∈ tbl := tbl_k tq_3 93 rfl rfl
theorem k_641 : (Cond.code yX4_copyFrom cX4_copyFrom 2 none) ∈ tbl := tbl_k tq_3 94 rfl rfl
theorem k_642 : (Cond.methodLink RX4 42 arraycopyName) ∈ tbl := tbl_k tq_3 95 rfl rfl
theorem k_643 : (Cond.static arraycopyName) ∈ tbl := tbl_k tq_3 96 rfl rfl
theorem k_644 : (Cond.native arraycopyName) ∈ tbl := tbl_k tq_3 97 rfl rfl
theorem k_645 : (Cond.methodLink RL 87 yX11_standing) ∈ tbl := tbl_k tq_3 98 rfl rfl
theorem k_646 : (Cond.instanceMethod yX11_standing) ∈ tbl := tbl_k tq_3 99 rfl rfl
theorem k_647 : (Cond.selects RX11 yX11_standing yX11_standing) ∈ tbl := tbl_k tq_3 100 rfl rfl
theorem k_648 : (Cond.code yX11_standing cX11_standing 2 (some (.int))) ∈ tbl := tbl_k tq_3 101 rfl rfl
theorem k_649 : (Cond.methodLink RX11 202 yX4_howMany) ∈ tbl := tbl_k tq_3 102 rfl rfl
theorem k_650 : (Cond.instanceMethod yX4_howMany) ∈ tbl := tbl_k tq_3 103 rfl rfl
theorem k_651 : (Cond.selects RX4 yX4_howMany yX4_howMany) ∈ tbl := tbl_k tq_3 104 rfl rfl
theorem k_652 : (Cond.code yX4_howMany cX4_howMany 1 (some (.int))) ∈ tbl := tbl_k tq_3 105 rfl rfl
theorem k_653 : (Cond.methodLink RX4 71 yX4_bits) ∈ tbl := tbl_k tq_3 106 rfl rfl
theorem k_654 : (Cond.instanceMethod yX4_bits) ∈ tbl := tbl_k tq_3 107 rfl rfl
theorem k_655 : (Cond.selects RX4 yX4_bits yX4_bits) ∈ tbl := tbl_k tq_3 108 rfl rfl
theorem k_656 : (Cond.code yX4_bits cX4_bits 3 (some (.int))) ∈ tbl := tbl_k tq_3 109 rfl rfl
theorem k_657 : (Cond.methodLink RX4 75 yJ6_bitCount_0f7a4) ∈ tbl := tbl_k tq_3 110 rfl rfl
theorem k_658 : (Cond.static yJ6_bitCount_0f7a4) ∈ tbl := tbl_k tq_3 111 rfl rfl
theorem k_659 : (Cond.code yJ6_bitCount_0f7a4 cJ6_bitCount_0f7a4 1 (some (.int))) ∈ tbl := tbl_k tq_3 112 rfl rfl
theorem k_660 : (Cond.constant "java/lang/Integer" 265 (1431655765)) ∈ tbl := tbl_k tq_3 113 rfl rfl
theorem k_661 : (Cond.constant "java/lang/Integer" 266 (858993459)) ∈ tbl := tbl_k tq_3 114 rfl rfl
theorem k_662 : (Cond.constant "java/lang/Integer" 267 (252645135)) ∈ tbl := tbl_k tq_3 115 rfl rfl
theorem k_663 : (Cond.methodLink RL 91 yX11_lasts) ∈ tbl := tbl_k tq_3 116 rfl rfl
theorem k_664 : (Cond.instanceMethod yX11_lasts) ∈ tbl := tbl_k tq_3 117 rfl rfl
theorem k_665 : (Cond.selects RX11 yX11_lasts yX11_lasts) ∈ tbl := tbl_k tq_3 118 rfl rfl
theorem k_666 : (Cond.code yX11_lasts cX11_lasts 3 (some (.int))) ∈ tbl := tbl_k tq_3 119 rfl rfl
theorem k_667 : (Cond.methodLink RX11 209 yX4_lastsFor) ∈ tbl := tbl_k tq_3 120 rfl rfl
theorem k_668 : (Cond.instanceMethod yX4_lastsFor) ∈ tbl := tbl_k tq_3 121 rfl rfl
theorem k_669 : (Cond.selects RX4 yX4_lastsFor yX4_lastsFor) ∈ tbl := tbl_k tq_3 122 rfl rfl
theorem k_670 : (Cond.code yX4_lastsFor cX4_lastsFor 3 (some (.int))) ∈ tbl := tbl_k tq_3 123 rfl rfl
theorem k_671 : (Cond.methodLink RL 95 yX11_lastOne) ∈ tbl := tbl_k tq_3 124 rfl rfl
theorem k_672 : (Cond.instanceMethod yX11_lastOne) ∈ tbl := tbl_k tq_3 125 rfl rfl
theorem k_673 : (Cond.selects RX11 yX11_lastOne yX11_lastOne) ∈ tbl := tbl_k tq_3 126 rfl rfl
theorem k_674 : (Cond.code yX11_lastOne cX11_lastOne 5 (some (.int))) ∈ tbl := tbl_k tq_3 127 rfl rfl
theorem k_675 : (Cond.methodLink RL 100 yX11_round) ∈ tbl := tbl_k tq_3 128 rfl rfl
theorem k_676 : (Cond.instanceMethod yX11_round) ∈ tbl := tbl_k tq_3 129 rfl rfl
theorem k_677 : (Cond.selects RX11 yX11_round yX11_round) ∈ tbl := tbl_k tq_3 130 rfl rfl
theorem k_678 : (Cond.code yX11_round cX11_round 5 (some (.int))) ∈ tbl := tbl_k tq_3 131 rfl rfl
theorem k_679 : (Cond.methodLink RX11 212 yX11_bestRound) ∈ tbl := tbl_k tq_3 132 rfl rfl
theorem k_681 : (Cond.instanceMethod yX11_bestRound) ∈ tbl := tbl_k tq_3 134 rfl rfl
theorem k_682 : (Cond.code yX11_bestRound cX11_bestRound 8 (some (.int))) ∈ tbl := tbl_k tq_3 135 rfl rfl
theorem k_683 : (Cond.fieldLink RX11 303 "StandStill" "NINES" "[I") ∈ tbl := tbl_k tq_3 136 rfl rfl
theorem k_685 : (Cond.methodLink RX11 306 yX11_flyRow) ∈ tbl := tbl_k tq_3 138 rfl rfl
theorem k_687 : (Cond.instanceMethod yX11_flyRow) ∈ tbl := tbl_k tq_3 140 rfl rfl
theorem k_688 : (Cond.code yX11_flyRow cX11_flyRow 5 none) ∈ tbl := tbl_k tq_3 141 rfl rfl
theorem k_689 : (Cond.fieldLink RX11 215 "StandStill" "TENS" "[I") ∈ tbl := tbl_k tq_3 142 rfl rfl
theorem k_691 : (Cond.methodLink RX11 309 yX11_figures) ∈ tbl := tbl_k tq_3 144 rfl rfl
theorem k_692 : (Cond.static yX11_figures) ∈ tbl := tbl_k tq_3 145 rfl rfl
theorem k_693 : (Cond.code yX11_figures cX11_figures 4 (some (.int))) ∈ tbl := tbl_k tq_3 146 rfl rfl
theorem k_694 : (Cond.methodLink RL 104 yX11_change) ∈ tbl := tbl_k tq_3 147 rfl rfl
theorem k_695 : (Cond.instanceMethod yX11_change) ∈ tbl := tbl_k tq_3 148 rfl rfl
theorem k_696 : (Cond.selects RX11 yX11_change yX11_change) ∈ tbl := tbl_k tq_3 149 rfl rfl
theorem k_697 : (Cond.code yX11_change cX11_change 7 (some (.int))) ∈ tbl := tbl_k tq_3 150 rfl rfl
theorem k_698 : (Cond.methodLink RL 108 yX11_empties) ∈ tbl := tbl_k tq_3 151 rfl rfl
theorem k_699 : (Cond.instanceMethod yX11_empties) ∈ tbl := tbl_k tq_3 152 rfl rfl
theorem k_700 : (Cond.selects RX11 yX11_empties yX11_empties) ∈ tbl := tbl_k tq_3 153 rfl rfl
theorem k_701 : (Cond.code yX11_empties cX11_empties 6 (some (.int))) ∈ tbl := tbl_k tq_3 154 rfl rfl
theorem k_702 : (Cond.methodLink RX11 218 yX4_bits) ∈ tbl := tbl_k tq_3 155 rfl rfl
theorem k_703 : (Cond.methodLink RX11 221 yJ6_bitCount_0f7a4) ∈ tbl := tbl_k tq_3 156 rfl rfl
theorem k_704 : (Cond.methodLink RX11 226 yX11_isEmptiedBy) ∈ tbl := tbl_k tq_3 157 rfl rfl
theorem k_706 : (Cond.instanceMethod yX11_isEmptiedBy) ∈ tbl := tbl_k tq_3 159 rfl rfl
theorem k_707 : (Cond.code yX11_isEmptiedBy cX11_isEmptiedBy 3 (some (.boolean))) ∈ tbl := tbl_k tq_3 160 rfl rfl
theorem k_708 : (Cond.methodLink RL 112 yX11_whose) ∈ tbl := tbl_k tq_3 161 rfl rfl
theorem k_709 : (Cond.instanceMethod yX11_whose) ∈ tbl := tbl_k tq_3 162 rfl rfl
theorem k_710 : (Cond.selects RX11 yX11_whose yX11_whose) ∈ tbl := tbl_k tq_3 163 rfl rfl
theorem k_711 : (Cond.code yX11_whose cX11_whose 5 (some (.int))) ∈ tbl := tbl_k tq_3 164 rfl rfl
theorem k_712 : (Cond.methodLink RL 116 yX11_slate) ∈ tbl := tbl_k tq_3 165 rfl rfl
theorem k_713 : (Cond.instanceMethod yX11_slate) ∈ tbl := tbl_k tq_3 166 rfl rfl
theorem k_714 : (Cond.selects RX11 yX11_slate yX11_slate) ∈ tbl := tbl_k tq_3 167 rfl rfl
theorem k_715 : (Cond.code yX11_slate cX11_slate 9 (some (.long))) ∈ tbl := tbl_k tq_3 168 rfl rfl
theorem k_716 : (Cond.methodLink RX11 229 yX11_isSheet) ∈ tbl := tbl_k tq_3 169 rfl rfl
theorem k_717 : (Cond.static yX11_isSheet) ∈ tbl := tbl_k tq_3 170 rfl rfl
theorem k_718 : (Cond.code yX11_isSheet cX11_isSheet 1 (some (.boolean))) ∈ tbl := tbl_k tq_3 171 rfl rfl
theorem k_719 : (Cond.methodLink RX11 232 yX11_isMissing) ∈ tbl := tbl_k tq_3 172 rfl rfl
theorem k_721 : (Cond.instanceMethod yX11_isMissing) ∈ tbl := tbl_k tq_3 174 rfl rfl
theorem k_722 : (Cond.code yX11_isMissing cX11_isMissing 2 (some (.boolean))) ∈ tbl := tbl_k tq_3 175 rfl rfl
theorem k_723 : (Cond.methodLink RX11 234 yX11_commonDivisor) ∈ tbl := tbl_k tq_3 176 rfl rfl
theorem k_724 : (Cond.static yX11_commonDivisor) ∈ tbl := tbl_k tq_3 177 rfl rfl
theorem k_725 : (Cond.code yX11_commonDivisor cX11_commonDivisor 11 (some (.long))) ∈ tbl := tbl_k tq_3 178 rfl rfl
theorem k_726 : (Cond.methodLink RX11 298 Lib.MathLoose.max_long.x) ∈ tbl := tbl_k tq_3 179 rfl rfl
theorem k_727 : (Cond.static Lib.MathLoose.max_long.x) ∈ tbl := tbl_k tq_3 180 rfl rfl
theorem k_728 : (Cond.code Lib.MathLoose.max_long.x Lib.MathLoose.max_long.code 4 (some (.long))) ∈ tbl := tbl_k tq_3 181 rfl rfl
theorem k_729 : (Cond.methodLink RL 121 yX11_voice) ∈ tbl := tbl_k tq_3 182 rfl rfl
theorem k_730 : (Cond.instanceMethod yX11_voice) ∈ tbl := tbl_k tq_3 183 rfl rfl
theorem k_731 : (Cond.selects RX11 yX11_voice yX11_voice) ∈ tbl := tbl_k tq_3 184 rfl rfl
theorem k_732 : (Cond.code yX11_voice cX11_voice 6 (some (.int))) ∈ tbl := tbl_k tq_3 185 rfl rfl
theorem k_733 : (Cond.methodLink RX11 238 yX6_starts) ∈ tbl := tbl_k tq_3 186 rfl rfl
theorem k_734 : (Cond.instanceMethod yX6_starts) ∈ tbl := tbl_k tq_3 187 rfl rfl
theorem k_735 : (Cond.selects RX6 yX6_starts yX6_starts) ∈ tbl := tbl_k tq_3 188 rfl rfl
theorem k_736 : (Cond.code yX6_starts cX6_starts 3 none) ∈ tbl := tbl_k tq_3 189 rfl rfl
theorem k_737 : (Cond.methodLink RX11 241 yX7_holds) ∈ tbl := tbl_k tq_3 190 rfl rfl
theorem k_738 : (Cond.instanceMethod yX7_holds) ∈ tbl := tbl_k tq_3 191 rfl rfl
theorem k_739 : (Cond.selects RX7 yX7_holds yX7_holds) ∈ tbl := tbl_k tq_3 192 rfl rfl
theorem k_740 : (Cond.sameMethod RX7 RX7 "holds" "(LStandStill$Speaker;I)I") ∈ tbl := tbl_k tq_3 193 rfl rfl
theorem k_741 : (Cond.selects RX0 yX7_holds yX0_holds) ∈ tbl := tbl_k tq_3 194 rfl rfl
theorem k_742 : (Cond.instanceMethod yX0_holds) ∈ tbl := tbl_k tq_3 195 rfl rfl
theorem k_743 : (Cond.code yX0_holds cX0_holds 3 (some (.int))) ∈ tbl := tbl_k tq_3 196 rfl rfl
theorem k_744 : (Cond.methodLink RX0 7 yX6_begins) ∈ tbl := tbl_k tq_3 197 rfl rfl
theorem k_745 : (Cond.instanceMethod yX6_begins) ∈ tbl := tbl_k tq_3 198 rfl rfl
theorem k_746 : (Cond.selects RX6 yX6_begins yX6_begins) ∈ tbl := tbl_k tq_3 199 rfl rfl
theorem k_747 : (Cond.code yX6_begins cX6_begins 2 none) ∈ tbl := tbl_k tq_3 200 rfl rfl
theorem k_748 : (Cond.methodLink RX0 13 yX7_holds) ∈ tbl := tbl_k tq_3 201 rfl rfl
theorem k_749 : (Cond.selects RX2 yX7_holds yX7_holds) ∈ tbl := tbl_k tq_3 202 rfl rfl
theorem k_750 : (Cond.selects RX3 yX7_holds yX3_holds) ∈ tbl := tbl_k tq_3 203 rfl rfl
theorem k_751 : (Cond.instanceMethod yX3_holds) ∈ tbl := tbl_k tq_3 204 rfl rfl
theorem k_752 : (Cond.code yX3_holds cX3_holds 3 (some (.int))) ∈ tbl := tbl_k tq_3 205 rfl rfl
theorem k_753 : (Cond.methodLink RX3 21 yX6_begins) ∈ tbl := tbl_k tq_3 206 rfl rfl
theorem k_754 : (Cond.methodLink RX3 27 yX0_holds) ∈ tbl := tbl_k tq_3 207 rfl rfl
theorem k_755 : (Cond.selects RX8 yX7_holds yX7_holds) ∈ tbl := tbl_k tq_3 208 rfl rfl
theorem k_756 : (Cond.selects RX9 yX7_holds yX9_holds) ∈ tbl := tbl_k tq_3 209 rfl rfl
theorem k_757 : (Cond.instanceMethod yX9_holds) ∈ tbl := tbl_k tq_3 210 rfl rfl
theorem k_758 : (Cond.code yX9_holds cX9_holds 3 (some (.int))) ∈ tbl := tbl_k tq_3 211 rfl rfl
theorem k_759 : (Cond.methodLink RX9 37 yX6_begins) ∈ tbl := tbl_k tq_3 212 rfl rfl
theorem k_760 : (Cond.selects RX10 yX7_holds yX7_holds) ∈ tbl := tbl_k tq_3 213 rfl rfl
theorem k_761 : (Cond.code yX7_holds cX7_holds 3 (some (.int))) ∈ tbl := tbl_k tq_3 214 rfl rfl
theorem k_762 : (Cond.methodLink RX7 13 yX6_begins) ∈ tbl := tbl_k tq_3 215 rfl rfl
theorem k_763 : (Cond.methodLink RX11 245 yX7_leans) ∈ tbl := tbl_k tq_3 216 rfl rfl
theorem k_764 : (Cond.instanceMethod yX7_leans) ∈ tbl := tbl_k tq_3 217 rfl rfl
theorem k_765 : (Cond.selects RX7 yX7_leans yX7_leans) ∈ tbl := tbl_k tq_3 218 rfl rfl
theorem k_766 : (Cond.sameMethod RX7 RX7 "leans" "(LStandStill$Speaker;I)I") ∈ tbl := tbl_k tq_3 219 rfl rfl
theorem k_767 : (Cond.selects RX0 yX7_leans yX7_leans) ∈ tbl := tbl_k tq_3 220 rfl rfl
theorem k_768 : (Cond.selects RX2 yX7_leans yX2_leans) ∈ tbl := tbl_k tq_3 221 rfl rfl
theorem k_769 : (Cond.instanceMethod yX2_leans) ∈ tbl := tbl_k tq_3 222 rfl rfl
theorem k_770 : (Cond.code yX2_leans cX2_leans 3 (some (.int))) ∈ tbl := tbl_k tq_3 223 rfl rfl
theorem k_771 : (Cond.methodLink RX2 17 yX6_begins) ∈ tbl := tbl_k tq_3 224 rfl rfl
theorem k_772 : (Cond.methodLink RX2 23 yX7_leans) ∈ tbl := tbl_k tq_3 225 rfl rfl
theorem k_773 : (Cond.selects RX3 yX7_leans yX7_leans) ∈ tbl := tbl_k tq_3 226 rfl rfl
theorem k_774 : (Cond.selects RX8 yX7_leans yX7_leans) ∈ tbl := tbl_k tq_3 227 rfl rfl
theorem k_775 : (Cond.selects RX9 yX7_leans yX9_leans) ∈ tbl := tbl_k tq_3 228 rfl rfl
theorem k_776 : (Cond.instanceMethod yX9_leans) ∈ tbl := tbl_k tq_3 229 rfl rfl
theorem k_777 : (Cond.code yX9_leans cX9_leans 3 (some (.int))) ∈ tbl := tbl_k tq_3 230 rfl rfl
theorem k_778 : (Cond.methodLink RX9 43 yX7_leans) ∈ tbl := tbl_k tq_3 231 rfl rfl
theorem k_779 : (Cond.selects RX10 yX7_leans yX10_leans) ∈ tbl := tbl_k tq_3 232 rfl rfl
theorem k_780 : (Cond.instanceMethod yX10_leans) ∈ tbl := tbl_k tq_3 233 rfl rfl
theorem k_781 : (Cond.code yX10_leans cX10_leans 3 (some (.int))) ∈ tbl := tbl_k tq_3 234 rfl rfl
theorem k_782 : (Cond.methodLink RX10 11 yX6_begins) ∈ tbl := tbl_k tq_3 235 rfl rfl
theorem k_783 : (Cond.methodLink RX10 17 yX2_leans) ∈ tbl := tbl_k tq_3 236 rfl rfl
theorem k_784 : (Cond.code yX7_leans cX7_leans 3 (some (.int))) ∈ tbl := tbl_k tq_3 237 rfl rfl
theorem k_785 : (Cond.methodLink RX7 22 yX7_holds) ∈ tbl := tbl_k tq_3 238 rfl rfl
theorem k_786 : (Cond.methodLink RX11 248 yX7_sways) ∈ tbl := tbl_k tq_3 239 rfl rfl
theorem k_787 : (Cond.instanceMethod yX7_sways) ∈ tbl := tbl_k tq_4 0 rfl rfl
theorem k_788 : (Cond.selects RX7 yX7_sways yX7_sways) ∈ tbl := tbl_k tq_4 1 rfl rfl
theorem k_789 : (Cond.sameMethod RX7 RX7 "sways" "(LStandStill$Speaker;I)I") ∈ tbl := tbl_k tq_4 2 rfl rfl
theorem k_790 : (Cond.selects RX0 yX7_sways yX7_sways) ∈ tbl := tbl_k tq_4 3 rfl rfl
theorem k_791 : (Cond.selects RX2 yX7_sways yX7_sways) ∈ tbl := tbl_k tq_4 4 rfl rfl
theorem k_792 : (Cond.selects RX3 yX7_sways yX3_sways) ∈ tbl := tbl_k tq_4 5 rfl rfl
theorem k_793 : (Cond.instanceMethod yX3_sways) ∈ tbl := tbl_k tq_4 6 rfl rfl
theorem k_794 : (Cond.code yX3_sways cX3_sways 3 (some (.int))) ∈ tbl := tbl_k tq_4 7 rfl rfl
theorem k_795 : (Cond.methodLink RX3 31 ⟨"StandStill$Asleep", "sways", "(LStandStill$Speaker;I)I"⟩) ∈ tbl := tbl_k tq_4 8 rfl rfl
theorem k_796 : (Cond.sameMethod RX0 RX7 "sways" "(LStandStill$Speaker;I)I") ∈ tbl := tbl_k tq_4 9 rfl rfl
theorem k_798 : (Cond.selects RX8 yX7_sways yX8_sways) ∈ tbl := tbl_k tq_4 11 rfl rfl
theorem k_799 : (Cond.instanceMethod yX8_sways) ∈ tbl := tbl_k tq_4 12 rfl rfl
theorem k_800 : (Cond.code yX8_sways cX8_sways 3 (some (.int))) ∈ tbl := tbl_k tq_4 13 rfl rfl
theorem k_801 : (Cond.methodLink RX8 11 yX6_begins) ∈ tbl := tbl_k tq_4 14 rfl rfl
theorem k_802 : (Cond.methodLink RX8 17 yX7_sways) ∈ tbl := tbl_k tq_4 15 rfl rfl
theorem k_803 : (Cond.selects RX9 yX7_sways yX7_sways) ∈ tbl := tbl_k tq_4 16 rfl rfl
theorem k_804 : (Cond.selects RX10 yX7_sways yX7_sways) ∈ tbl := tbl_k tq_4 17 rfl rfl
theorem k_805 : (Cond.code yX7_sways cX7_sways 3 (some (.int))) ∈ tbl := tbl_k tq_4 18 rfl rfl
theorem k_806 : (Cond.methodLink RX7 28 yX7_leans) ∈ tbl := tbl_k tq_4 19 rfl rfl
theorem k_807 : (Cond.methodLink RX11 251 yX7_parts) ∈ tbl := tbl_k tq_4 20 rfl rfl
theorem k_808 : (Cond.instanceMethod yX7_parts) ∈ tbl := tbl_k tq_4 21 rfl rfl
theorem k_809 : (Cond.selects RX7 yX7_parts yX7_parts) ∈ tbl := tbl_k tq_4 22 rfl rfl
theorem k_810 : (Cond.sameMethod RX7 RX7 "parts" "(LStandStill$Speaker;I)I") ∈ tbl := tbl_k tq_4 23 rfl rfl
theorem k_811 : (Cond.selects RX0 yX7_parts yX0_parts) ∈ tbl := tbl_k tq_4 24 rfl rfl
theorem k_812 : (Cond.instanceMethod yX0_parts) ∈ tbl := tbl_k tq_4 25 rfl rfl
theorem k_813 : (Cond.code yX0_parts cX0_parts 4 (some (.int))) ∈ tbl := tbl_k tq_4 26 rfl rfl
theorem k_814 : (Cond.methodLink RX0 17 yX7_parts) ∈ tbl := tbl_k tq_4 27 rfl rfl
theorem k_815 : (Cond.methodLink RX0 24 ⟨"StandStill$Asleep", "leans", "(LStandStill$Speaker;I)I"⟩) ∈ tbl := tbl_k tq_4 28 rfl rfl
theorem k_816 : (Cond.sameMethod RX0 RX7 "leans" "(LStandStill$Speaker;I)I") ∈ tbl := tbl_k tq_4 29 rfl rfl
theorem k_818 : (Cond.selects RX0 ⟨"StandStill$Asleep", "leans", "(LStandStill$Speaker;I)I"⟩ yX7_leans) ∈ tbl := tbl_k tq_4 31 rfl rfl
theorem k_819 : (Cond.selects RX3 ⟨"StandStill$Asleep", "leans", "(LStandStill$Speaker;I)I"⟩ yX7_leans) ∈ tbl := tbl_k tq_4 32 rfl rfl
theorem k_820 : (Cond.selects RX2 yX7_parts yX7_parts) ∈ tbl := tbl_k tq_4 33 rfl rfl
theorem k_821 : (Cond.selects RX3 yX7_parts yX0_parts) ∈ tbl := tbl_k tq_4 34 rfl rfl
theorem k_822 : (Cond.selects RX8 yX7_parts yX7_parts) ∈ tbl := tbl_k tq_4 35 rfl rfl
theorem k_823 : (Cond.selects RX9 yX7_parts yX7_parts) ∈ tbl := tbl_k tq_4 36 rfl rfl
theorem k_824 : (Cond.selects RX10 yX7_parts yX7_parts) ∈ tbl := tbl_k tq_4 37 rfl rfl
theorem k_825 : (Cond.code yX7_parts cX7_parts 4 (some (.int))) ∈ tbl := tbl_k tq_4 38 rfl rfl
theorem k_826 : (Cond.methodLink RX11 258 yX6_keep) ∈ tbl := tbl_k tq_4 39 rfl rfl
theorem k_827 : (Cond.instanceMethod yX6_keep) ∈ tbl := tbl_k tq_4 40 rfl rfl
theorem k_828 : (Cond.selects RX6 yX6_keep yX6_keep) ∈ tbl := tbl_k tq_4 41 rfl rfl
theorem k_829 : (Cond.code yX6_keep cX6_keep 1 none) ∈ tbl := tbl_k tq_4 42 rfl rfl
theorem k_830 : (Cond.methodLink RX6 32 arraycopyName) ∈ tbl := tbl_k tq_4 43 rfl rfl
theorem k_831 : (Cond.methodLink RL 125 yX11_body) ∈ tbl := tbl_k tq_4 44 rfl rfl
theorem k_832 : (Cond.instanceMethod yX11_body) ∈ tbl := tbl_k tq_4 45 rfl rfl
theorem k_833 : (Cond.selects RX11 yX11_body yX11_body) ∈ tbl := tbl_k tq_4 46 rfl rfl
theorem k_834 : (Cond.code yX11_body cX11_body 2 (some (.int))) ∈ tbl := tbl_k tq_4 47 rfl rfl
theorem k_835 : (Cond.methodLink RL 129 yX11_sheet) ∈ tbl := tbl_k tq_4 48 rfl rfl
theorem k_836 : (Cond.instanceMethod yX11_sheet) ∈ tbl := tbl_k tq_4 49 rfl rfl
theorem k_837 : (Cond.selects RX11 yX11_sheet yX11_sheet) ∈ tbl := tbl_k tq_4 50 rfl rfl
theorem k_838 : (Cond.code yX11_sheet cX11_sheet 5 (some (.int))) ∈ tbl := tbl_k tq_4 51 rfl rfl
theorem k_839 : (Cond.methodLink RX11 267 yX11_isWidth) ∈ tbl := tbl_k tq_4 52 rfl rfl
theorem k_840 : (Cond.static yX11_isWidth) ∈ tbl := tbl_k tq_4 53 rfl rfl
theorem k_841 : (Cond.code yX11_isWidth cX11_isWidth 1 (some (.boolean))) ∈ tbl := tbl_k tq_4 54 rfl rfl
theorem k_842 : (Cond.methodLink RL 133 yX11_put) ∈ tbl := tbl_k tq_4 55 rfl rfl
theorem k_843 : (Cond.instanceMethod yX11_put) ∈ tbl := tbl_k tq_4 56 rfl rfl
theorem k_844 : (Cond.selects RX11 yX11_put yX11_put) ∈ tbl := tbl_k tq_4 57 rfl rfl
theorem k_845 : (Cond.code yX11_put cX11_put 4 (some (.int))) ∈ tbl := tbl_k tq_4 58 rfl rfl
theorem k_846 : (Cond.methodLink RX11 270 yX11_lowestBits) ∈ tbl := tbl_k tq_4 59 rfl rfl
theorem k_847 : (Cond.static yX11_lowestBits) ∈ tbl := tbl_k tq_4 60 rfl rfl
theorem k_848 : (Cond.code yX11_lowestBits cX11_lowestBits 2 (some (.int))) ∈ tbl := tbl_k tq_4 61 rfl rfl
theorem k_849 : (Cond.methodLink RL 137 yX11_move) ∈ tbl := tbl_k tq_4 62 rfl rfl
theorem k_850 : (Cond.instanceMethod yX11_move) ∈ tbl := tbl_k tq_4 63 rfl rfl
theorem k_851 : (Cond.selects RX11 yX11_move yX11_move) ∈ tbl := tbl_k tq_4 64 rfl rfl
theorem k_852 : (Cond.code yX11_move cX11_move 6 (some (.int))) ∈ tbl := tbl_k tq_4 65 rfl rfl
theorem k_853 : (Cond.methodLink RX11 273 yX11_stand) ∈ tbl := tbl_k tq_4 66 rfl rfl
theorem k_855 : (Cond.instanceMethod yX11_stand) ∈ tbl := tbl_k tq_4 68 rfl rfl
theorem k_856 : (Cond.code yX11_stand cX11_stand 4 (some (.boolean))) ∈ tbl := tbl_k tq_4 69 rfl rfl
theorem k_857 : (Cond.methodLink RX11 276 arraycopyName) ∈ tbl := tbl_k tq_4 70 rfl rfl
theorem k_858 : (Cond.methodLink RL 142 yX11_flies) ∈ tbl := tbl_k tq_4 71 rfl rfl
theorem k_859 : (Cond.instanceMethod yX11_flies) ∈ tbl := tbl_k tq_4 72 rfl rfl
theorem k_860 : (Cond.selects RX11 yX11_flies yX11_flies) ∈ tbl := tbl_k tq_4 73 rfl rfl
theorem k_861 : (Cond.code yX11_flies cX11_flies 3 (some (.int))) ∈ tbl := tbl_k tq_4 74 rfl rfl
theorem k_862 : (Cond.methodLink RL 146 yX11_judge) ∈ tbl := tbl_k tq_4 75 rfl rfl
theorem k_863 : (Cond.instanceMethod yX11_judge) ∈ tbl := tbl_k tq_4 76 rfl rfl
theorem k_864 : (Cond.selects RX11 yX11_judge yX11_judge) ∈ tbl := tbl_k tq_4 77 rfl rfl
theorem k_865 : (Cond.code yX11_judge cX11_judge 3 (some (.int))) ∈ tbl := tbl_k tq_4 78 rfl rfl
theorem k_866 : (Cond.methodLink RX11 282 yX4_passMinute) ∈ tbl := tbl_k tq_4 79 rfl rfl
theorem k_867 : (Cond.methodLink RL 150 yX11_image) ∈ tbl := tbl_k tq_4 80 rfl rfl
theorem k_868 : (Cond.instanceMethod yX11_image) ∈ tbl := tbl_k tq_4 81 rfl rfl
theorem k_869 : (Cond.selects RX11 yX11_image yX11_image) ∈ tbl := tbl_k tq_4 82 rfl rfl
theorem k_870 : (Cond.code yX11_image cX11_image 1 (some (.int))) ∈ tbl := tbl_k tq_4 83 rfl rfl
theorem k_871 : (Cond.methodLink RX11 285 yX5_copyFrom) ∈ tbl := tbl_k tq_4 84 rfl rfl
theorem k_872 : (Cond.instanceMethod yX5_copyFrom) ∈ tbl := tbl_k tq_4 85 rfl rfl
theorem k_873 : (Cond.selects RX5 yX5_copyFrom yX5_copyFrom) ∈ tbl := tbl_k tq_4 86 rfl rfl
theorem k_874 : (Cond.code yX5_copyFrom cX5_copyFrom 2 none) ∈ tbl := tbl_k tq_4 87 rfl rfl
theorem k_875 : (Cond.methodLink RX5 44 yX1_copyFrom) ∈ tbl := tbl_k tq_4 88 rfl rfl
theorem k_876 : (Cond.instanceMethod yX1_copyFrom) ∈ tbl := tbl_k tq_4 89 rfl rfl
theorem k_877 : (Cond.selects RX1 yX1_copyFrom yX1_copyFrom) ∈ tbl := tbl_k tq_4 90 rfl rfl
theorem k_878 : (Cond.code yX1_copyFrom cX1_copyFrom 2 none) ∈ tbl := tbl_k tq_4 91 rfl rfl
theorem k_879 : (Cond.methodLink RX1 25 arraycopyName) ∈ tbl := tbl_k tq_4 92 rfl rfl
theorem k_880 : (Cond.methodLink RX5 48 yX4_copyFrom) ∈ tbl := tbl_k tq_4 93 rfl rfl
theorem k_881 : (Cond.methodLink RX5 51 arraycopyName) ∈ tbl := tbl_k tq_4 94 rfl rfl
theorem k_882 : (Cond.methodLink RL 154 yX11_restore) ∈ tbl := tbl_k tq_4 95 rfl rfl
theorem k_883 : (Cond.instanceMethod yX11_restore) ∈ tbl := tbl_k tq_4 96 rfl rfl
theorem k_884 : (Cond.selects RX11 yX11_restore yX11_restore) ∈ tbl := tbl_k tq_4 97 rfl rfl
theorem k_885 : (Cond.code yX11_restore cX11_restore 1 (some (.int))) ∈ tbl := tbl_k tq_4 98 rfl rfl
theorem k_886 : (Cond.methodLink RL 158 yX11_tell) ∈ tbl := tbl_k tq_4 99 rfl rfl
theorem k_887 : (Cond.instanceMethod yX11_tell) ∈ tbl := tbl_k tq_4 100 rfl rfl
theorem k_888 : (Cond.selects RX11 yX11_tell yX11_tell) ∈ tbl := tbl_k tq_4 101 rfl rfl
theorem k_889 : (Cond.code yX11_tell cX11_tell 2 (some (.int))) ∈ tbl := tbl_k tq_4 102 rfl rfl
theorem k_890 : (Cond.methodLink RL 162 yX11_check) ∈ tbl := tbl_k tq_4 103 rfl rfl
theorem k_891 : (Cond.instanceMethod yX11_check) ∈ tbl := tbl_k tq_4 104 rfl rfl
theorem k_892 : (Cond.selects RX11 yX11_check yX11_check) ∈ tbl := tbl_k tq_4 105 rfl rfl
theorem k_893 : (Cond.code yX11_check cX11_check 3 (some (.int))) ∈ tbl := tbl_k tq_4 106 rfl rfl
theorem k_894 : (Cond.methodLink RL 166 yX11_count) ∈ tbl := tbl_k tq_4 107 rfl rfl
theorem k_895 : (Cond.instanceMethod yX11_count) ∈ tbl := tbl_k tq_4 108 rfl rfl
theorem k_896 : (Cond.selects RX11 yX11_count yX11_count) ∈ tbl := tbl_k tq_4 109 rfl rfl
theorem k_897 : (Cond.code yX11_count cX11_count 2 (some (.int))) ∈ tbl := tbl_k tq_4 110 rfl rfl
theorem k_898 : (Cond.methodLink RX11 294 yX4_allPatience) ∈ tbl := tbl_k tq_4 111 rfl rfl
theorem k_899 : (Cond.instanceMethod yX4_allPatience) ∈ tbl := tbl_k tq_4 112 rfl rfl
theorem k_900 : (Cond.selects RX4 yX4_allPatience yX4_allPatience) ∈ tbl := tbl_k tq_4 113 rfl rfl
theorem k_901 : (Cond.code yX4_allPatience cX4_allPatience 3 (some (.int))) ∈ tbl := tbl_k tq_4 114 rfl rfl
theorem k_902 : (Cond.methodLink RL 170 yX11_told) ∈ tbl := tbl_k tq_4 115 rfl rfl
theorem k_903 : (Cond.instanceMethod yX11_told) ∈ tbl := tbl_k tq_4 116 rfl rfl
theorem k_904 : (Cond.selects RX11 yX11_told yX11_told) ∈ tbl := tbl_k tq_4 117 rfl rfl
theorem k_905 : (Cond.code yX11_told cX11_told 2 (some (.int))) ∈ tbl := tbl_k tq_4 118 rfl rfl
theorem k_906 : (Cond.classLink RL 10 RX12) ∈ tbl := tbl_k tq_4 119 rfl rfl
theorem k_907 : (Cond.instantiable RX12 21) ∈ tbl := tbl_k tq_4 120 rfl rfl
theorem k_908 : (Cond.methodLink RL 12 yX12_init) ∈ tbl := tbl_k tq_4 121 rfl rfl
theorem k_909 : (Cond.instanceMethod yX12_init) ∈ tbl := tbl_k tq_4 122 rfl rfl
theorem k_910 : (Cond.code yX12_init cX12_init 2 none) ∈ tbl := tbl_k tq_4 123 rfl rfl
theorem k_911 : (Cond.methodLink RX12 1 Lib.objectInit) ∈ tbl := tbl_k tq_4 124 rfl rfl
theorem k_912 : (Cond.methodLink RX12 49 yX12_lays1) ∈ tbl := tbl_k tq_4 125 rfl rfl
theorem k_914 : (Cond.instanceMethod yX12_lays1) ∈ tbl := tbl_k tq_4 127 rfl rfl
theorem k_915 : (Cond.code yX12_lays1 cX12_lays1 4 none) ∈ tbl := tbl_k tq_4 128 rfl rfl
theorem k_916 : (Cond.fieldLink RX12 7 "StandStillModel" "s" "[I") ∈ tbl := tbl_k tq_4 129 rfl rfl
theorem k_917 : (Cond.fieldLink RX12 13 "StandStillModel" "kept" "[I") ∈ tbl := tbl_k tq_4 130 rfl rfl
theorem k_918 : (Cond.fieldLink RX12 16 "StandStillModel" "layers" "[I") ∈ tbl := tbl_k tq_4 131 rfl rfl
theorem k_919 : (Cond.fieldLink RX12 251 "StandStillModel" "images" "I") ∈ tbl := tbl_k tq_4 132 rfl rfl
theorem k_920 : (Cond.fieldLink RX12 19 "StandStillModel" "errors" "[I") ∈ tbl := tbl_k tq_4 133 rfl rfl
theorem k_921 : (Cond.fieldLink RX12 72 "StandStillModel" "at" "I") ∈ tbl := tbl_k tq_4 134 rfl rfl
theorem k_922 : (Cond.fieldLink RX12 106 "StandStillModel" "open" "I") ∈ tbl := tbl_k tq_4 135 rfl rfl
theorem k_923 : (Cond.fieldLink RX12 79 "StandStillModel" "steps" "I") ∈ tbl := tbl_k tq_4 136 rfl rfl
theorem k_924 : (Cond.fieldLink RX12 76 "StandStillModel" "use" "I") ∈ tbl := tbl_k tq_4 137 rfl rfl
theorem k_925 : (Cond.fieldLink RX12 22 "StandStillModel" "step" "[I") ∈ tbl := tbl_k tq_4 138 rfl rfl
theorem k_926 : (Cond.fieldLink RX12 25 "StandStillModel" "named" "[I") ∈ tbl := tbl_k tq_4 139 rfl rfl
theorem k_927 : (Cond.fieldLink RX12 28 "StandStillModel" "pile" "[I") ∈ tbl := tbl_k tq_4 140 rfl rfl
theorem k_928 : (Cond.fieldLink RX12 31 "StandStillModel" "until" "[I") ∈ tbl := tbl_k tq_4 141 rfl rfl
theorem k_929 : (Cond.fieldLink RX12 34 "StandStillModel" "trace" "[I") ∈ tbl := tbl_k tq_4 142 rfl rfl
theorem k_930 : (Cond.fieldLink RX12 210 "StandStillModel" "traced" "I") ∈ tbl := tbl_k tq_4 143 rfl rfl
theorem k_931 : (Cond.fieldLink RX12 213 "StandStillModel" "speaks" "I") ∈ tbl := tbl_k tq_4 144 rfl rfl
theorem k_932 : (Cond.fieldLink RX12 237 "StandStillModel" "isParted" "Z") ∈ tbl := tbl_k tq_4 145 rfl rfl
theorem k_933 : (Cond.fieldLink RX12 37 "StandStillModel" "bits" "[I") ∈ tbl := tbl_k tq_4 146 rfl rfl
theorem k_934 : (Cond.fieldLink RX12 40 "StandStillModel" "sizes" "[I") ∈ tbl := tbl_k tq_4 147 rfl rfl
theorem k_935 : (Cond.fieldLink RX12 43 "StandStillModel" "number" "[I") ∈ tbl := tbl_k tq_4 148 rfl rfl
theorem k_936 : (Cond.fieldLink RX12 46 "StandStillModel" "aside" "[I") ∈ tbl := tbl_k tq_4 149 rfl rfl
theorem k_979 : (Cond.superclass RX12 "java/lang/Object") ∈ tbl := tbl_k tq_4 192 rfl rfl
theorem k_980 : (Cond.methodLink RL 53 yX12_feed) ∈ tbl := tbl_k tq_4 193 rfl rfl
theorem k_981 : (Cond.instanceMethod yX12_feed) ∈ tbl := tbl_k tq_4 194 rfl rfl
theorem k_982 : (Cond.selects RX12 yX12_feed yX12_feed) ∈ tbl := tbl_k tq_4 195 rfl rfl
theorem k_983 : (Cond.code yX12_feed cX12_feed 5 (some (.int))) ∈ tbl := tbl_k tq_4 196 rfl rfl
theorem k_984 : (Cond.methodLink RX12 54 yX12_in) ∈ tbl := tbl_k tq_4 197 rfl rfl
theorem k_985 : (Cond.static yX12_in) ∈ tbl := tbl_k tq_4 198 rfl rfl
theorem k_986 : (Cond.code yX12_in cX12_in 3 (some (.boolean))) ∈ tbl := tbl_k tq_4 199 rfl rfl
theorem k_987 : (Cond.methodLink RX12 66 yX12_error) ∈ tbl := tbl_k tq_4 200 rfl rfl
theorem k_989 : (Cond.instanceMethod yX12_error) ∈ tbl := tbl_k tq_4 202 rfl rfl
theorem k_990 : (Cond.code yX12_error cX12_error 2 (some (.int))) ∈ tbl := tbl_k tq_4 203 rfl rfl
theorem k_991 : (Cond.constant RX12 53 (-1000000000)) ∈ tbl := tbl_k tq_4 204 rfl rfl
theorem k_992 : (Cond.constantLong RX12 70 (255)) ∈ tbl := tbl_k tq_4 205 rfl rfl
theorem k_993 : (Cond.methodLink RL 57 yX12_text) ∈ tbl := tbl_k tq_4 206 rfl rfl
theorem k_994 : (Cond.instanceMethod yX12_text) ∈ tbl := tbl_k tq_4 207 rfl rfl
theorem k_995 : (Cond.selects RX12 yX12_text yX12_text) ∈ tbl := tbl_k tq_4 208 rfl rfl
theorem k_996 : (Cond.code yX12_text cX12_text 5 (some (.int))) ∈ tbl := tbl_k tq_4 209 rfl rfl
theorem k_997 : (Cond.methodLink RX12 115 yX12_whole) ∈ tbl := tbl_k tq_4 210 rfl rfl
theorem k_999 : (Cond.instanceMethod yX12_whole) ∈ tbl := tbl_k tq_4 212 rfl rfl
theorem k_1000 : (Cond.code yX12_whole cX12_whole 1 (some (.boolean))) ∈ tbl := tbl_k tq_4 213 rfl rfl
theorem k_1001 : (Cond.methodLink RX12 82 yX12_both) ∈ tbl := tbl_k tq_4 214 rfl rfl
theorem k_1003 : (Cond.instanceMethod yX12_both) ∈ tbl := tbl_k tq_4 216 rfl rfl
theorem k_1004 : (Cond.code yX12_both cX12_both 1 (some (.boolean))) ∈ tbl := tbl_k tq_4 217 rfl rfl
theorem k_1005 : (Cond.methodLink RX12 94 yX12_compared) ∈ tbl := tbl_k tq_4 218 rfl rfl
theorem k_1007 : (Cond.instanceMethod yX12_compared) ∈ tbl := tbl_k tq_4 220 rfl rfl
theorem k_1008 : (Cond.code yX12_compared cX12_compared 2 (some (.boolean))) ∈ tbl := tbl_k tq_4 221 rfl rfl
theorem k_1009 : (Cond.methodLink RX12 97 yX12_sum) ∈ tbl := tbl_k tq_4 222 rfl rfl
theorem k_1011 : (Cond.instanceMethod yX12_sum) ∈ tbl := tbl_k tq_4 224 rfl rfl
theorem k_1012 : (Cond.code yX12_sum cX12_sum 2 (some (.boolean))) ∈ tbl := tbl_k tq_4 225 rfl rfl
theorem k_1013 : (Cond.methodLink RX12 100 yX12_product) ∈ tbl := tbl_k tq_4 226 rfl rfl
theorem k_1015 : (Cond.instanceMethod yX12_product) ∈ tbl := tbl_k tq_4 228 rfl rfl
theorem k_1016 : (Cond.code yX12_product cX12_product 2 (some (.boolean))) ∈ tbl := tbl_k tq_4 229 rfl rfl
theorem k_1017 : (Cond.methodLink RX12 103 yX12_one) ∈ tbl := tbl_k tq_4 230 rfl rfl
theorem k_1019 : (Cond.instanceMethod yX12_one) ∈ tbl := tbl_k tq_4 232 rfl rfl
theorem k_1020 : (Cond.code yX12_one cX12_one 4 (some (.boolean))) ∈ tbl := tbl_k tq_4 233 rfl rfl
theorem k_1021 : (Cond.methodLink RX12 86 yX12_look) ∈ tbl := tbl_k tq_4 234 rfl rfl
theorem k_1023 : (Cond.instanceMethod yX12_look) ∈ tbl := tbl_k tq_4 236 rfl rfl
theorem k_1024 : (Cond.code yX12_look cX12_look 1 (some (.int))) ∈ tbl := tbl_k tq_4 237 rfl rfl
theorem k_1025 : (Cond.methodLink RX12 109 yX12_isName) ∈ tbl := tbl_k tq_4 238 rfl rfl
theorem k_1027 : (Cond.instanceMethod yX12_isName) ∈ tbl := tbl_k tq_5 0 rfl rfl
theorem k_1028 : (Cond.code yX12_isName cX12_isName 2 (some (.boolean))) ∈ tbl := tbl_k tq_5 1 rfl rfl
theorem k_1029 : (Cond.methodLink RX12 90 yX12_step1) ∈ tbl := tbl_k tq_5 2 rfl rfl
theorem k_1031 : (Cond.instanceMethod yX12_step1) ∈ tbl := tbl_k tq_5 4 rfl rfl
theorem k_1032 : (Cond.code yX12_step1 cX12_step1 3 none) ∈ tbl := tbl_k tq_5 5 rfl rfl
theorem k_1033 : (Cond.methodLink RX12 112 yX12_opens) ∈ tbl := tbl_k tq_5 6 rfl rfl
theorem k_1035 : (Cond.instanceMethod yX12_opens) ∈ tbl := tbl_k tq_5 8 rfl rfl
theorem k_1036 : (Cond.code yX12_opens cX12_opens 1 (some (.boolean))) ∈ tbl := tbl_k tq_5 9 rfl rfl
theorem k_1037 : (Cond.methodLink RL 61 yX12_untell) ∈ tbl := tbl_k tq_5 10 rfl rfl
theorem k_1038 : (Cond.instanceMethod yX12_untell) ∈ tbl := tbl_k tq_5 11 rfl rfl
theorem k_1039 : (Cond.selects RX12 yX12_untell yX12_untell) ∈ tbl := tbl_k tq_5 12 rfl rfl
theorem k_1040 : (Cond.code yX12_untell cX12_untell 3 (some (.int))) ∈ tbl := tbl_k tq_5 13 rfl rfl
theorem k_1041 : (Cond.methodLink RX12 118 yX12_hasText) ∈ tbl := tbl_k tq_5 14 rfl rfl
theorem k_1043 : (Cond.instanceMethod yX12_hasText) ∈ tbl := tbl_k tq_5 16 rfl rfl
theorem k_1044 : (Cond.code yX12_hasText cX12_hasText 2 (some (.boolean))) ∈ tbl := tbl_k tq_5 17 rfl rfl
theorem k_1045 : (Cond.methodLink RL 17 yX12_stander) ∈ tbl := tbl_k tq_5 18 rfl rfl
theorem k_1046 : (Cond.instanceMethod yX12_stander) ∈ tbl := tbl_k tq_5 19 rfl rfl
theorem k_1047 : (Cond.selects RX12 yX12_stander yX12_stander) ∈ tbl := tbl_k tq_5 20 rfl rfl
theorem k_1048 : (Cond.code yX12_stander cX12_stander 4 (some (.int))) ∈ tbl := tbl_k tq_5 21 rfl rfl
theorem k_1049 : (Cond.methodLink RX12 159 yX12_isOne) ∈ tbl := tbl_k tq_5 22 rfl rfl
theorem k_1050 : (Cond.static yX12_isOne) ∈ tbl := tbl_k tq_5 23 rfl rfl
theorem k_1051 : (Cond.code yX12_isOne cX12_isOne 1 (some (.boolean))) ∈ tbl := tbl_k tq_5 24 rfl rfl
theorem k_1052 : (Cond.methodLink RX12 58 yX12_its) ∈ tbl := tbl_k tq_5 25 rfl rfl
theorem k_1054 : (Cond.instanceMethod yX12_its) ∈ tbl := tbl_k tq_5 27 rfl rfl
theorem k_1055 : (Cond.code yX12_its cX12_its 3 (some (.int))) ∈ tbl := tbl_k tq_5 28 rfl rfl
theorem k_1056 : (Cond.methodLink RL 21 yX12_standerIs) ∈ tbl := tbl_k tq_5 29 rfl rfl
theorem k_1057 : (Cond.instanceMethod yX12_standerIs) ∈ tbl := tbl_k tq_5 30 rfl rfl
theorem k_1058 : (Cond.selects RX12 yX12_standerIs yX12_standerIs) ∈ tbl := tbl_k tq_5 31 rfl rfl
theorem k_1059 : (Cond.code yX12_standerIs cX12_standerIs 3 (some (.int))) ∈ tbl := tbl_k tq_5 32 rfl rfl
theorem k_1060 : (Cond.methodLink RX12 144 yX12_spends) ∈ tbl := tbl_k tq_5 33 rfl rfl
theorem k_1062 : (Cond.instanceMethod yX12_spends) ∈ tbl := tbl_k tq_5 35 rfl rfl
theorem k_1063 : (Cond.code yX12_spends cX12_spends 4 (some (.int))) ∈ tbl := tbl_k tq_5 36 rfl rfl
theorem k_1064 : (Cond.methodLink RX12 128 yX12_spendsTold) ∈ tbl := tbl_k tq_5 37 rfl rfl
theorem k_1066 : (Cond.instanceMethod yX12_spendsTold) ∈ tbl := tbl_k tq_5 39 rfl rfl
theorem k_1067 : (Cond.code yX12_spendsTold cX12_spendsTold 2 (some (.int))) ∈ tbl := tbl_k tq_5 40 rfl rfl
theorem k_1068 : (Cond.methodLink RX12 125 yX12_worked) ∈ tbl := tbl_k tq_5 41 rfl rfl
theorem k_1070 : (Cond.instanceMethod yX12_worked) ∈ tbl := tbl_k tq_5 43 rfl rfl
theorem k_1071 : (Cond.code yX12_worked cX12_worked 7 (some (.int))) ∈ tbl := tbl_k tq_5 44 rfl rfl
theorem k_1072 : (Cond.methodLink RX12 121 yX12_joined) ∈ tbl := tbl_k tq_5 45 rfl rfl
theorem k_1073 : (Cond.static yX12_joined) ∈ tbl := tbl_k tq_5 46 rfl rfl
theorem k_1074 : (Cond.code yX12_joined cX12_joined 3 (some (.int))) ∈ tbl := tbl_k tq_5 47 rfl rfl
theorem k_1075 : (Cond.methodLink RX12 131 yX12_held) ∈ tbl := tbl_k tq_5 48 rfl rfl
theorem k_1076 : (Cond.static yX12_held) ∈ tbl := tbl_k tq_5 49 rfl rfl
theorem k_1077 : (Cond.code yX12_held cX12_held 3 (some (.int))) ∈ tbl := tbl_k tq_5 50 rfl rfl
theorem k_1078 : (Cond.methodLink RX12 153 yX12_bite) ∈ tbl := tbl_k tq_5 51 rfl rfl
theorem k_1080 : (Cond.instanceMethod yX12_bite) ∈ tbl := tbl_k tq_5 53 rfl rfl
theorem k_1081 : (Cond.code yX12_bite cX12_bite 2 (some (.int))) ∈ tbl := tbl_k tq_5 54 rfl rfl
theorem k_1082 : (Cond.methodLink RL 25 yX12_as) ∈ tbl := tbl_k tq_5 55 rfl rfl
theorem k_1083 : (Cond.instanceMethod yX12_as) ∈ tbl := tbl_k tq_5 56 rfl rfl
theorem k_1084 : (Cond.selects RX12 yX12_as yX12_as) ∈ tbl := tbl_k tq_5 57 rfl rfl
theorem k_1085 : (Cond.code yX12_as cX12_as 3 (some (.int))) ∈ tbl := tbl_k tq_5 58 rfl rfl
theorem k_1086 : (Cond.methodLink RX12 162 yX12_isUnder) ∈ tbl := tbl_k tq_5 59 rfl rfl
theorem k_1087 : (Cond.static yX12_isUnder) ∈ tbl := tbl_k tq_5 60 rfl rfl
theorem k_1088 : (Cond.code yX12_isUnder cX12_isUnder 2 (some (.boolean))) ∈ tbl := tbl_k tq_5 61 rfl rfl
theorem k_1089 : (Cond.methodLink RL 29 yX12_patience) ∈ tbl := tbl_k tq_5 62 rfl rfl
theorem k_1090 : (Cond.instanceMethod yX12_patience) ∈ tbl := tbl_k tq_5 63 rfl rfl
theorem k_1091 : (Cond.selects RX12 yX12_patience yX12_patience) ∈ tbl := tbl_k tq_5 64 rfl rfl
theorem k_1092 : (Cond.code yX12_patience cX12_patience 5 (some (.int))) ∈ tbl := tbl_k tq_5 65 rfl rfl
theorem k_1093 : (Cond.methodLink RX12 62 yX12_stands) ∈ tbl := tbl_k tq_5 66 rfl rfl
theorem k_1095 : (Cond.instanceMethod yX12_stands) ∈ tbl := tbl_k tq_5 68 rfl rfl
theorem k_1096 : (Cond.code yX12_stands cX12_stands 2 (some (.boolean))) ∈ tbl := tbl_k tq_5 69 rfl rfl
theorem k_1097 : (Cond.methodLink RX12 147 yX12_settle) ∈ tbl := tbl_k tq_5 70 rfl rfl
theorem k_1099 : (Cond.instanceMethod yX12_settle) ∈ tbl := tbl_k tq_5 72 rfl rfl
theorem k_1100 : (Cond.code yX12_settle cX12_settle 3 (some (.int))) ∈ tbl := tbl_k tq_5 73 rfl rfl
theorem k_1101 : (Cond.methodLink RX12 140 yX12_stirs) ∈ tbl := tbl_k tq_5 74 rfl rfl
theorem k_1103 : (Cond.instanceMethod yX12_stirs) ∈ tbl := tbl_k tq_5 76 rfl rfl
theorem k_1104 : (Cond.code yX12_stirs cX12_stirs 4 none) ∈ tbl := tbl_k tq_5 77 rfl rfl
theorem k_1105 : (Cond.methodLink RX12 134 yX12_shaken) ∈ tbl := tbl_k tq_5 78 rfl rfl
theorem k_1107 : (Cond.instanceMethod yX12_shaken) ∈ tbl := tbl_k tq_5 80 rfl rfl
theorem k_1108 : (Cond.code yX12_shaken cX12_shaken 4 (some (.int))) ∈ tbl := tbl_k tq_5 81 rfl rfl
theorem k_1109 : (Cond.methodLink RX12 137 yX12_loses) ∈ tbl := tbl_k tq_5 82 rfl rfl
theorem k_1111 : (Cond.instanceMethod yX12_loses) ∈ tbl := tbl_k tq_5 84 rfl rfl
theorem k_1112 : (Cond.code yX12_loses cX12_loses 3 none) ∈ tbl := tbl_k tq_5 85 rfl rfl
theorem k_1113 : (Cond.methodLink RL 33 yX12_swap) ∈ tbl := tbl_k tq_5 86 rfl rfl
theorem k_1114 : (Cond.instanceMethod yX12_swap) ∈ tbl := tbl_k tq_5 87 rfl rfl
theorem k_1115 : (Cond.selects RX12 yX12_swap yX12_swap) ∈ tbl := tbl_k tq_5 88 rfl rfl
theorem k_1116 : (Cond.code yX12_swap cX12_swap 3 (some (.int))) ∈ tbl := tbl_k tq_5 89 rfl rfl
theorem k_1117 : (Cond.methodLink RX12 166 yX12_swaps) ∈ tbl := tbl_k tq_5 90 rfl rfl
theorem k_1119 : (Cond.instanceMethod yX12_swaps) ∈ tbl := tbl_k tq_5 92 rfl rfl
theorem k_1120 : (Cond.code yX12_swaps cX12_swaps 4 none) ∈ tbl := tbl_k tq_5 93 rfl rfl
theorem k_1121 : (Cond.methodLink RL 37 yX12_again) ∈ tbl := tbl_k tq_5 94 rfl rfl
theorem k_1122 : (Cond.instanceMethod yX12_again) ∈ tbl := tbl_k tq_5 95 rfl rfl
theorem k_1123 : (Cond.selects RX12 yX12_again yX12_again) ∈ tbl := tbl_k tq_5 96 rfl rfl
theorem k_1124 : (Cond.code yX12_again cX12_again 3 (some (.int))) ∈ tbl := tbl_k tq_5 97 rfl rfl
theorem k_1125 : (Cond.methodLink RL 42 yX12_sun) ∈ tbl := tbl_k tq_5 98 rfl rfl
theorem k_1126 : (Cond.instanceMethod yX12_sun) ∈ tbl := tbl_k tq_5 99 rfl rfl
theorem k_1127 : (Cond.selects RX12 yX12_sun yX12_sun) ∈ tbl := tbl_k tq_5 100 rfl rfl
theorem k_1128 : (Cond.code yX12_sun cX12_sun 2 (some (.int))) ∈ tbl := tbl_k tq_5 101 rfl rfl
theorem k_1129 : (Cond.methodLink RX12 169 yX12_change1) ∈ tbl := tbl_k tq_5 102 rfl rfl
theorem k_1131 : (Cond.instanceMethod yX12_change1) ∈ tbl := tbl_k tq_5 104 rfl rfl
theorem k_1132 : (Cond.code yX12_change1 cX12_change1 4 (some (.int))) ∈ tbl := tbl_k tq_5 105 rfl rfl
theorem k_1133 : (Cond.methodLink RL 46 yX12_at) ∈ tbl := tbl_k tq_5 106 rfl rfl
theorem k_1134 : (Cond.instanceMethod yX12_at) ∈ tbl := tbl_k tq_5 107 rfl rfl
theorem k_1135 : (Cond.selects RX12 yX12_at yX12_at) ∈ tbl := tbl_k tq_5 108 rfl rfl
theorem k_1136 : (Cond.code yX12_at cX12_at 2 (some (.int))) ∈ tbl := tbl_k tq_5 109 rfl rfl
theorem k_1137 : (Cond.methodLink RX12 150 yX12_standsAt) ∈ tbl := tbl_k tq_5 110 rfl rfl
theorem k_1139 : (Cond.instanceMethod yX12_standsAt) ∈ tbl := tbl_k tq_5 112 rfl rfl
theorem k_1140 : (Cond.code yX12_standsAt cX12_standsAt 3 (some (.int))) ∈ tbl := tbl_k tq_5 113 rfl rfl
theorem k_1141 : (Cond.methodLink RL 65 yX12_minutes) ∈ tbl := tbl_k tq_5 114 rfl rfl
theorem k_1142 : (Cond.instanceMethod yX12_minutes) ∈ tbl := tbl_k tq_5 115 rfl rfl
theorem k_1143 : (Cond.selects RX12 yX12_minutes yX12_minutes) ∈ tbl := tbl_k tq_5 116 rfl rfl
theorem k_1144 : (Cond.code yX12_minutes cX12_minutes 3 (some (.int))) ∈ tbl := tbl_k tq_5 117 rfl rfl
theorem k_1145 : (Cond.methodLink RX12 172 yX12_go) ∈ tbl := tbl_k tq_5 118 rfl rfl
theorem k_1147 : (Cond.instanceMethod yX12_go) ∈ tbl := tbl_k tq_5 120 rfl rfl
theorem k_1148 : (Cond.code yX12_go cX12_go 4 (some (.int))) ∈ tbl := tbl_k tq_5 121 rfl rfl
theorem k_1149 : (Cond.methodLink RX12 156 yX12_minute) ∈ tbl := tbl_k tq_5 122 rfl rfl
theorem k_1151 : (Cond.instanceMethod yX12_minute) ∈ tbl := tbl_k tq_5 124 rfl rfl
theorem k_1152 : (Cond.code yX12_minute cX12_minute 2 (some (.int))) ∈ tbl := tbl_k tq_5 125 rfl rfl
theorem k_1153 : (Cond.methodLink RL 69 yX12_fly) ∈ tbl := tbl_k tq_5 126 rfl rfl
theorem k_1154 : (Cond.instanceMethod yX12_fly) ∈ tbl := tbl_k tq_5 127 rfl rfl
theorem k_1155 : (Cond.selects RX12 yX12_fly yX12_fly) ∈ tbl := tbl_k tq_5 128 rfl rfl
theorem k_1156 : (Cond.code yX12_fly cX12_fly 2 (some (.int))) ∈ tbl := tbl_k tq_5 129 rfl rfl
theorem k_1157 : (Cond.methodLink RX12 175 yX12_flyAt) ∈ tbl := tbl_k tq_5 130 rfl rfl
theorem k_1159 : (Cond.instanceMethod yX12_flyAt) ∈ tbl := tbl_k tq_5 132 rfl rfl
theorem k_1160 : (Cond.code yX12_flyAt cX12_flyAt 3 (some (.int))) ∈ tbl := tbl_k tq_5 133 rfl rfl
theorem k_1161 : (Cond.methodLink RL 73 yX12_poke) ∈ tbl := tbl_k tq_5 134 rfl rfl
theorem k_1162 : (Cond.instanceMethod yX12_poke) ∈ tbl := tbl_k tq_5 135 rfl rfl
theorem k_1163 : (Cond.selects RX12 yX12_poke yX12_poke) ∈ tbl := tbl_k tq_5 136 rfl rfl
theorem k_1164 : (Cond.code yX12_poke cX12_poke 3 (some (.int))) ∈ tbl := tbl_k tq_5 137 rfl rfl
theorem k_1165 : (Cond.methodLink RX12 178 yX12_pokes) ∈ tbl := tbl_k tq_5 138 rfl rfl
theorem k_1167 : (Cond.instanceMethod yX12_pokes) ∈ tbl := tbl_k tq_5 140 rfl rfl
theorem k_1168 : (Cond.code yX12_pokes cX12_pokes 2 (some (.int))) ∈ tbl := tbl_k tq_5 141 rfl rfl
theorem k_1169 : (Cond.methodLink RL 77 yX12_draws) ∈ tbl := tbl_k tq_5 142 rfl rfl
theorem k_1170 : (Cond.instanceMethod yX12_draws) ∈ tbl := tbl_k tq_5 143 rfl rfl
theorem k_1171 : (Cond.selects RX12 yX12_draws yX12_draws) ∈ tbl := tbl_k tq_5 144 rfl rfl
theorem k_1172 : (Cond.code yX12_draws cX12_draws 4 (some (.int))) ∈ tbl := tbl_k tq_5 145 rfl rfl
theorem k_1173 : (Cond.methodLink RX12 182 yX12_draw) ∈ tbl := tbl_k tq_5 146 rfl rfl
theorem k_1175 : (Cond.instanceMethod yX12_draw) ∈ tbl := tbl_k tq_5 148 rfl rfl
theorem k_1176 : (Cond.code yX12_draw cX12_draw 1 (some (.int))) ∈ tbl := tbl_k tq_5 149 rfl rfl
theorem k_1177 : (Cond.constant RX12 181 (1103515245)) ∈ tbl := tbl_k tq_5 150 rfl rfl
theorem k_1178 : (Cond.methodLink RL 81 yX12_seed) ∈ tbl := tbl_k tq_5 151 rfl rfl
theorem k_1179 : (Cond.instanceMethod yX12_seed) ∈ tbl := tbl_k tq_5 152 rfl rfl
theorem k_1180 : (Cond.selects RX12 yX12_seed yX12_seed) ∈ tbl := tbl_k tq_5 153 rfl rfl
theorem k_1181 : (Cond.code yX12_seed cX12_seed 2 (some (.int))) ∈ tbl := tbl_k tq_5 154 rfl rfl
theorem k_1182 : (Cond.methodLink RL 86 yX12_then) ∈ tbl := tbl_k tq_5 155 rfl rfl
theorem k_1183 : (Cond.instanceMethod yX12_then) ∈ tbl := tbl_k tq_5 156 rfl rfl
theorem k_1184 : (Cond.selects RX12 yX12_then yX12_then) ∈ tbl := tbl_k tq_5 157 rfl rfl
theorem k_1185 : (Cond.code yX12_then cX12_then 6 (some (.int))) ∈ tbl := tbl_k tq_5 158 rfl rfl
theorem k_1186 : (Cond.methodLink RX12 185 yX12_layDown) ∈ tbl := tbl_k tq_5 159 rfl rfl
theorem k_1188 : (Cond.instanceMethod yX12_layDown) ∈ tbl := tbl_k tq_5 161 rfl rfl
theorem k_1189 : (Cond.code yX12_layDown cX12_layDown 3 none) ∈ tbl := tbl_k tq_5 162 rfl rfl
theorem k_1190 : (Cond.methodLink RX12 188 yX12_layBack) ∈ tbl := tbl_k tq_5 163 rfl rfl
theorem k_1192 : (Cond.instanceMethod yX12_layBack) ∈ tbl := tbl_k tq_5 165 rfl rfl
theorem k_1193 : (Cond.code yX12_layBack cX12_layBack 3 none) ∈ tbl := tbl_k tq_5 166 rfl rfl
theorem k_1194 : (Cond.methodLink RL 90 yX12_standing) ∈ tbl := tbl_k tq_5 167 rfl rfl
theorem k_1195 : (Cond.instanceMethod yX12_standing) ∈ tbl := tbl_k tq_5 168 rfl rfl
theorem k_1196 : (Cond.selects RX12 yX12_standing yX12_standing) ∈ tbl := tbl_k tq_5 169 rfl rfl
theorem k_1197 : (Cond.code yX12_standing cX12_standing 4 (some (.int))) ∈ tbl := tbl_k tq_5 170 rfl rfl
theorem k_1198 : (Cond.methodLink RX12 191 yX12_howMany) ∈ tbl := tbl_k tq_5 171 rfl rfl
theorem k_1200 : (Cond.instanceMethod yX12_howMany) ∈ tbl := tbl_k tq_5 173 rfl rfl
theorem k_1201 : (Cond.code yX12_howMany cX12_howMany 3 (some (.int))) ∈ tbl := tbl_k tq_5 174 rfl rfl
theorem k_1202 : (Cond.methodLink RL 94 yX12_lasts) ∈ tbl := tbl_k tq_5 175 rfl rfl
theorem k_1203 : (Cond.instanceMethod yX12_lasts) ∈ tbl := tbl_k tq_5 176 rfl rfl
theorem k_1204 : (Cond.selects RX12 yX12_lasts yX12_lasts) ∈ tbl := tbl_k tq_5 177 rfl rfl
theorem k_1205 : (Cond.code yX12_lasts cX12_lasts 3 (some (.int))) ∈ tbl := tbl_k tq_5 178 rfl rfl
theorem k_1206 : (Cond.methodLink RX12 194 yX12_lastAll) ∈ tbl := tbl_k tq_5 179 rfl rfl
theorem k_1208 : (Cond.instanceMethod yX12_lastAll) ∈ tbl := tbl_k tq_5 181 rfl rfl
theorem k_1209 : (Cond.code yX12_lastAll cX12_lastAll 4 none) ∈ tbl := tbl_k tq_5 182 rfl rfl
theorem k_1210 : (Cond.methodLink RL 99 yX12_lastOne) ∈ tbl := tbl_k tq_5 183 rfl rfl
theorem k_1211 : (Cond.instanceMethod yX12_lastOne) ∈ tbl := tbl_k tq_5 184 rfl rfl
theorem k_1212 : (Cond.selects RX12 yX12_lastOne yX12_lastOne) ∈ tbl := tbl_k tq_5 185 rfl rfl
theorem k_1213 : (Cond.code yX12_lastOne cX12_lastOne 3 (some (.int))) ∈ tbl := tbl_k tq_5 186 rfl rfl
theorem k_1214 : (Cond.methodLink RL 103 yX12_round) ∈ tbl := tbl_k tq_5 187 rfl rfl
theorem k_1215 : (Cond.instanceMethod yX12_round) ∈ tbl := tbl_k tq_5 188 rfl rfl
theorem k_1216 : (Cond.selects RX12 yX12_round yX12_round) ∈ tbl := tbl_k tq_5 189 rfl rfl
theorem k_1217 : (Cond.code yX12_round cX12_round 10 (some (.int))) ∈ tbl := tbl_k tq_5 190 rfl rfl
theorem k_1218 : (Cond.methodLink RL 107 yX12_change) ∈ tbl := tbl_k tq_5 191 rfl rfl
theorem k_1219 : (Cond.instanceMethod yX12_change) ∈ tbl := tbl_k tq_5 192 rfl rfl
theorem k_1220 : (Cond.selects RX12 yX12_change yX12_change) ∈ tbl := tbl_k tq_5 193 rfl rfl
theorem k_1221 : (Cond.code yX12_change cX12_change 6 (some (.int))) ∈ tbl := tbl_k tq_5 194 rfl rfl
theorem k_1222 : (Cond.methodLink RL 111 yX12_empties) ∈ tbl := tbl_k tq_5 195 rfl rfl
theorem k_1223 : (Cond.instanceMethod yX12_empties) ∈ tbl := tbl_k tq_5 196 rfl rfl
theorem k_1224 : (Cond.selects RX12 yX12_empties yX12_empties) ∈ tbl := tbl_k tq_5 197 rfl rfl
theorem k_1225 : (Cond.code yX12_empties cX12_empties 7 (some (.int))) ∈ tbl := tbl_k tq_5 198 rfl rfl
theorem k_1226 : (Cond.methodLink RX12 197 yX12_standSet) ∈ tbl := tbl_k tq_5 199 rfl rfl
theorem k_1228 : (Cond.instanceMethod yX12_standSet) ∈ tbl := tbl_k tq_5 201 rfl rfl
theorem k_1229 : (Cond.code yX12_standSet cX12_standSet 3 (some (.int))) ∈ tbl := tbl_k tq_5 202 rfl rfl
theorem k_1230 : (Cond.methodLink RX12 200 yX12_bitsOf) ∈ tbl := tbl_k tq_5 203 rfl rfl
theorem k_1231 : (Cond.static yX12_bitsOf) ∈ tbl := tbl_k tq_5 204 rfl rfl
theorem k_1232 : (Cond.code yX12_bitsOf cX12_bitsOf 3 (some (.int))) ∈ tbl := tbl_k tq_5 205 rfl rfl
theorem k_1233 : (Cond.methodLink RL 115 yX12_whose) ∈ tbl := tbl_k tq_5 206 rfl rfl
theorem k_1234 : (Cond.instanceMethod yX12_whose) ∈ tbl := tbl_k tq_5 207 rfl rfl
theorem k_1235 : (Cond.selects RX12 yX12_whose yX12_whose) ∈ tbl := tbl_k tq_5 208 rfl rfl
theorem k_1236 : (Cond.code yX12_whose cX12_whose 6 (some (.int))) ∈ tbl := tbl_k tq_5 209 rfl rfl
theorem k_1237 : (Cond.methodLink RL 120 yX12_slate) ∈ tbl := tbl_k tq_5 210 rfl rfl
theorem k_1238 : (Cond.instanceMethod yX12_slate) ∈ tbl := tbl_k tq_5 211 rfl rfl
theorem k_1239 : (Cond.selects RX12 yX12_slate yX12_slate) ∈ tbl := tbl_k tq_5 212 rfl rfl
theorem k_1240 : (Cond.code yX12_slate cX12_slate 11 (some (.long))) ∈ tbl := tbl_k tq_5 213 rfl rfl
theorem k_1241 : (Cond.methodLink RX12 203 yX12_isSheet) ∈ tbl := tbl_k tq_5 214 rfl rfl
theorem k_1242 : (Cond.static yX12_isSheet) ∈ tbl := tbl_k tq_5 215 rfl rfl
theorem k_1243 : (Cond.code yX12_isSheet cX12_isSheet 1 (some (.boolean))) ∈ tbl := tbl_k tq_5 216 rfl rfl
theorem k_1244 : (Cond.methodLink RX12 206 yX12_divisor) ∈ tbl := tbl_k tq_5 217 rfl rfl
theorem k_1245 : (Cond.static yX12_divisor) ∈ tbl := tbl_k tq_5 218 rfl rfl
theorem k_1246 : (Cond.code yX12_divisor cX12_divisor 10 (some (.long))) ∈ tbl := tbl_k tq_5 219 rfl rfl
theorem k_1247 : (Cond.methodLink RL 124 yX12_voice) ∈ tbl := tbl_k tq_5 220 rfl rfl
theorem k_1248 : (Cond.instanceMethod yX12_voice) ∈ tbl := tbl_k tq_5 221 rfl rfl
theorem k_1249 : (Cond.selects RX12 yX12_voice yX12_voice) ∈ tbl := tbl_k tq_5 222 rfl rfl
theorem k_1250 : (Cond.code yX12_voice cX12_voice 6 (some (.int))) ∈ tbl := tbl_k tq_5 223 rfl rfl
theorem k_1251 : (Cond.methodLink RX12 225 yX12_kindNow) ∈ tbl := tbl_k tq_5 224 rfl rfl
theorem k_1253 : (Cond.instanceMethod yX12_kindNow) ∈ tbl := tbl_k tq_5 226 rfl rfl
theorem k_1254 : (Cond.code yX12_kindNow cX12_kindNow 1 (some (.int))) ∈ tbl := tbl_k tq_5 227 rfl rfl
theorem k_1255 : (Cond.methodLink RX12 222 yX12_holdsAs) ∈ tbl := tbl_k tq_5 228 rfl rfl
theorem k_1257 : (Cond.instanceMethod yX12_holdsAs) ∈ tbl := tbl_k tq_5 230 rfl rfl
theorem k_1258 : (Cond.code yX12_holdsAs cX12_holdsAs 3 (some (.int))) ∈ tbl := tbl_k tq_5 231 rfl rfl
theorem k_1259 : (Cond.methodLink RX12 216 yX12_begins) ∈ tbl := tbl_k tq_5 232 rfl rfl
theorem k_1261 : (Cond.instanceMethod yX12_begins) ∈ tbl := tbl_k tq_5 234 rfl rfl
theorem k_1262 : (Cond.code yX12_begins cX12_begins 2 none) ∈ tbl := tbl_k tq_5 235 rfl rfl
theorem k_1263 : (Cond.methodLink RX12 219 yX12_above) ∈ tbl := tbl_k tq_5 236 rfl rfl
theorem k_1264 : (Cond.static yX12_above) ∈ tbl := tbl_k tq_5 237 rfl rfl
theorem k_1265 : (Cond.code yX12_above cX12_above 1 (some (.int))) ∈ tbl := tbl_k tq_5 238 rfl rfl
theorem k_1266 : (Cond.methodLink RX12 228 yX12_leansAs) ∈ tbl := tbl_k tq_5 239 rfl rfl
theorem k_1268 : (Cond.instanceMethod yX12_leansAs) ∈ tbl := tbl_k tq_6 1 rfl rfl
theorem k_1269 : (Cond.code yX12_leansAs cX12_leansAs 3 (some (.int))) ∈ tbl := tbl_k tq_6 2 rfl rfl
theorem k_1270 : (Cond.methodLink RX12 231 yX12_mNow) ∈ tbl := tbl_k tq_6 3 rfl rfl
theorem k_1272 : (Cond.instanceMethod yX12_mNow) ∈ tbl := tbl_k tq_6 5 rfl rfl
theorem k_1273 : (Cond.code yX12_mNow cX12_mNow 1 (some (.int))) ∈ tbl := tbl_k tq_6 6 rfl rfl
theorem k_1274 : (Cond.methodLink RX12 234 yX12_swaysAs) ∈ tbl := tbl_k tq_6 7 rfl rfl
theorem k_1276 : (Cond.instanceMethod yX12_swaysAs) ∈ tbl := tbl_k tq_6 9 rfl rfl
theorem k_1277 : (Cond.code yX12_swaysAs cX12_swaysAs 3 (some (.int))) ∈ tbl := tbl_k tq_6 10 rfl rfl
theorem k_1278 : (Cond.methodLink RX12 241 yX12_partsAs) ∈ tbl := tbl_k tq_6 11 rfl rfl
theorem k_1280 : (Cond.instanceMethod yX12_partsAs) ∈ tbl := tbl_k tq_6 13 rfl rfl
theorem k_1281 : (Cond.code yX12_partsAs cX12_partsAs 5 (some (.int))) ∈ tbl := tbl_k tq_6 14 rfl rfl
theorem k_1282 : (Cond.methodLink RL 128 yX12_body) ∈ tbl := tbl_k tq_6 15 rfl rfl
theorem k_1283 : (Cond.instanceMethod yX12_body) ∈ tbl := tbl_k tq_6 16 rfl rfl
theorem k_1284 : (Cond.selects RX12 yX12_body yX12_body) ∈ tbl := tbl_k tq_6 17 rfl rfl
theorem k_1285 : (Cond.code yX12_body cX12_body 2 (some (.int))) ∈ tbl := tbl_k tq_6 18 rfl rfl
theorem k_1286 : (Cond.methodLink RL 132 yX12_sheet) ∈ tbl := tbl_k tq_6 19 rfl rfl
theorem k_1287 : (Cond.instanceMethod yX12_sheet) ∈ tbl := tbl_k tq_6 20 rfl rfl
theorem k_1288 : (Cond.selects RX12 yX12_sheet yX12_sheet) ∈ tbl := tbl_k tq_6 21 rfl rfl
theorem k_1289 : (Cond.code yX12_sheet cX12_sheet 5 (some (.int))) ∈ tbl := tbl_k tq_6 22 rfl rfl
theorem k_1290 : (Cond.methodLink RL 136 yX12_put) ∈ tbl := tbl_k tq_6 23 rfl rfl
theorem k_1291 : (Cond.instanceMethod yX12_put) ∈ tbl := tbl_k tq_6 24 rfl rfl
theorem k_1292 : (Cond.selects RX12 yX12_put yX12_put) ∈ tbl := tbl_k tq_6 25 rfl rfl
theorem k_1293 : (Cond.code yX12_put cX12_put 5 (some (.int))) ∈ tbl := tbl_k tq_6 26 rfl rfl
theorem k_1294 : (Cond.methodLink RL 141 yX12_move) ∈ tbl := tbl_k tq_6 27 rfl rfl
theorem k_1295 : (Cond.instanceMethod yX12_move) ∈ tbl := tbl_k tq_6 28 rfl rfl
theorem k_1296 : (Cond.selects RX12 yX12_move yX12_move) ∈ tbl := tbl_k tq_6 29 rfl rfl
theorem k_1297 : (Cond.code yX12_move cX12_move 7 (some (.int))) ∈ tbl := tbl_k tq_6 30 rfl rfl
theorem k_1298 : (Cond.methodLink RL 145 yX12_flies) ∈ tbl := tbl_k tq_6 31 rfl rfl
theorem k_1299 : (Cond.instanceMethod yX12_flies) ∈ tbl := tbl_k tq_6 32 rfl rfl
theorem k_1300 : (Cond.selects RX12 yX12_flies yX12_flies) ∈ tbl := tbl_k tq_6 33 rfl rfl
theorem k_1301 : (Cond.code yX12_flies cX12_flies 5 (some (.int))) ∈ tbl := tbl_k tq_6 34 rfl rfl
theorem k_1302 : (Cond.methodLink RX12 244 yX12_lacks) ∈ tbl := tbl_k tq_6 35 rfl rfl
theorem k_1304 : (Cond.instanceMethod yX12_lacks) ∈ tbl := tbl_k tq_6 37 rfl rfl
theorem k_1305 : (Cond.code yX12_lacks cX12_lacks 2 (some (.int))) ∈ tbl := tbl_k tq_6 38 rfl rfl
theorem k_1306 : (Cond.methodLink RL 149 yX12_judge) ∈ tbl := tbl_k tq_6 39 rfl rfl
theorem k_1307 : (Cond.instanceMethod yX12_judge) ∈ tbl := tbl_k tq_6 40 rfl rfl
theorem k_1308 : (Cond.selects RX12 yX12_judge yX12_judge) ∈ tbl := tbl_k tq_6 41 rfl rfl
theorem k_1309 : (Cond.code yX12_judge cX12_judge 5 (some (.int))) ∈ tbl := tbl_k tq_6 42 rfl rfl
theorem k_1310 : (Cond.methodLink RL 153 yX12_image) ∈ tbl := tbl_k tq_6 43 rfl rfl
theorem k_1311 : (Cond.instanceMethod yX12_image) ∈ tbl := tbl_k tq_6 44 rfl rfl
theorem k_1312 : (Cond.selects RX12 yX12_image yX12_image) ∈ tbl := tbl_k tq_6 45 rfl rfl
theorem k_1313 : (Cond.code yX12_image cX12_image 1 (some (.int))) ∈ tbl := tbl_k tq_6 46 rfl rfl
theorem k_1314 : (Cond.methodLink RX12 247 yX12_carry) ∈ tbl := tbl_k tq_6 47 rfl rfl
theorem k_1315 : (Cond.static yX12_carry) ∈ tbl := tbl_k tq_6 48 rfl rfl
theorem k_1316 : (Cond.code yX12_carry cX12_carry 3 none) ∈ tbl := tbl_k tq_6 49 rfl rfl
theorem k_1317 : (Cond.methodLink RL 157 yX12_restore) ∈ tbl := tbl_k tq_6 50 rfl rfl
theorem k_1318 : (Cond.instanceMethod yX12_restore) ∈ tbl := tbl_k tq_6 51 rfl rfl
theorem k_1319 : (Cond.selects RX12 yX12_restore yX12_restore) ∈ tbl := tbl_k tq_6 52 rfl rfl
theorem k_1320 : (Cond.code yX12_restore cX12_restore 1 (some (.int))) ∈ tbl := tbl_k tq_6 53 rfl rfl
theorem k_1321 : (Cond.methodLink RL 161 yX12_tell) ∈ tbl := tbl_k tq_6 54 rfl rfl
theorem k_1322 : (Cond.instanceMethod yX12_tell) ∈ tbl := tbl_k tq_6 55 rfl rfl
theorem k_1323 : (Cond.selects RX12 yX12_tell yX12_tell) ∈ tbl := tbl_k tq_6 56 rfl rfl
theorem k_1324 : (Cond.code yX12_tell cX12_tell 2 (some (.int))) ∈ tbl := tbl_k tq_6 57 rfl rfl
theorem k_1325 : (Cond.methodLink RL 165 yX12_check) ∈ tbl := tbl_k tq_6 58 rfl rfl
theorem k_1326 : (Cond.instanceMethod yX12_check) ∈ tbl := tbl_k tq_6 59 rfl rfl
theorem k_1327 : (Cond.selects RX12 yX12_check yX12_check) ∈ tbl := tbl_k tq_6 60 rfl rfl
theorem k_1328 : (Cond.code yX12_check cX12_check 4 (some (.int))) ∈ tbl := tbl_k tq_6 61 rfl rfl
theorem k_1329 : (Cond.methodLink RL 169 yX12_count) ∈ tbl := tbl_k tq_6 62 rfl rfl
theorem k_1330 : (Cond.instanceMethod yX12_count) ∈ tbl := tbl_k tq_6 63 rfl rfl
theorem k_1331 : (Cond.selects RX12 yX12_count yX12_count) ∈ tbl := tbl_k tq_6 64 rfl rfl
theorem k_1332 : (Cond.code yX12_count cX12_count 4 (some (.int))) ∈ tbl := tbl_k tq_6 65 rfl rfl
theorem k_1333 : (Cond.methodLink RL 173 yX12_told) ∈ tbl := tbl_k tq_6 66 rfl rfl
theorem k_1334 : (Cond.instanceMethod yX12_told) ∈ tbl := tbl_k tq_6 67 rfl rfl
theorem k_1335 : (Cond.selects RX12 yX12_told yX12_told) ∈ tbl := tbl_k tq_6 68 rfl rfl
theorem k_1336 : (Cond.code yX12_told cX12_told 2 (some (.int))) ∈ tbl := tbl_k tq_6 69 rfl rfl
theorem k_1337 : (Cond.constantLong RL 47 (4294967295)) ∈ tbl := tbl_k tq_6 70 rfl rfl
theorem k_1338 : (Cond.sameMethod RX0 RX0 "spending" "(LStandStill$Row;I)I") ∈ tbl := tbl_k tq_6 71 rfl rfl
theorem k_1339 : (Cond.sameMethod RX0 RX0 "biting" "(I)I") ∈ tbl := tbl_k tq_6 72 rfl rfl
theorem k_1340 : (Cond.sameMethod RX0 RX0 "holds" "(LStandStill$Speaker;I)I") ∈ tbl := tbl_k tq_6 73 rfl rfl
theorem k_1341 : (Cond.sameMethod RX2 RX2 "leans" "(LStandStill$Speaker;I)I") ∈ tbl := tbl_k tq_6 74 rfl rfl
theorem hdV_X11_again : yX11_again.cls = RX11 ∧ yX11_again.cls ≠ "java/lang/invoke/MethodHandle" ∧ yX11_again.cls ≠ "java/lang/invoke/VarHandle" ∧ (parseMethodDescriptor yX11_again.desc).map (fun d => d.parameters.length) = some 2 := by decide +kernel
theorem hdS_X11_again : yX11_again.cls ≠ "java/lang/invoke/MethodHandle" ∧ yX11_again.cls ≠ "java/lang/invoke/VarHandle" ∧ (parseMethodDescriptor yX11_again.desc).map (fun d => d.parameters.length) = some 2 := by decide +kernel
theorem hdV_X11_as : yX11_as.cls = RX11 ∧ yX11_as.cls ≠ "java/lang/invoke/MethodHandle" ∧ yX11_as.cls ≠ "java/lang/invoke/VarHandle" ∧ (parseMethodDescriptor yX11_as.desc).map (fun d => d.parameters.length) = some 2 := by decide +kernel
theorem hdS_X11_as : yX11_as.cls ≠ "java/lang/invoke/MethodHandle" ∧ yX11_as.cls ≠ "java/lang/invoke/VarHandle" ∧ (parseMethodDescriptor yX11_as.desc).map (fun d => d.parameters.length) = some 2 := by decide +kernel
theorem hdV_X11_at : yX11_at.cls = RX11 ∧ yX11_at.cls ≠ "java/lang/invoke/MethodHandle" ∧ yX11_at.cls ≠ "java/lang/invoke/VarHandle" ∧ (parseMethodDescriptor yX11_at.desc).map (fun d => d.parameters.length) = some 1 := by decide +kernel
theorem hdS_X11_at : yX11_at.cls ≠ "java/lang/invoke/MethodHandle" ∧ yX11_at.cls ≠ "java/lang/invoke/VarHandle" ∧ (parseMethodDescriptor yX11_at.desc).map (fun d => d.parameters.length) = some 1 := by decide +kernel
theorem hdV_X11_bestRound : yX11_bestRound.cls = RX11 ∧ yX11_bestRound.cls ≠ "java/lang/invoke/MethodHandle" ∧ yX11_bestRound.cls ≠ "java/lang/invoke/VarHandle" ∧ (parseMethodDescriptor yX11_bestRound.desc).map (fun d => d.parameters.length) = some 2 := by decide +kernel
theorem hdS_X11_bestRound : yX11_bestRound.cls ≠ "java/lang/invoke/MethodHandle" ∧ yX11_bestRound.cls ≠ "java/lang/invoke/VarHandle" ∧ (parseMethodDescriptor yX11_bestRound.desc).map (fun d => d.parameters.length) = some 2 := by decide +kernel
theorem hdV_X11_body : yX11_body.cls = RX11 ∧ yX11_body.cls ≠ "java/lang/invoke/MethodHandle" ∧ yX11_body.cls ≠ "java/lang/invoke/VarHandle" ∧ (parseMethodDescriptor yX11_body.desc).map (fun d => d.parameters.length) = some 1 := by decide +kernel
theorem hdS_X11_body : yX11_body.cls ≠ "java/lang/invoke/MethodHandle" ∧ yX11_body.cls ≠ "java/lang/invoke/VarHandle" ∧ (parseMethodDescriptor yX11_body.desc).map (fun d => d.parameters.length) = some 1 := by decide +kernel
theorem hdV_X11_change : yX11_change.cls = RX11 ∧ yX11_change.cls ≠ "java/lang/invoke/MethodHandle" ∧ yX11_change.cls ≠ "java/lang/invoke/VarHandle" ∧ (parseMethodDescriptor yX11_change.desc).map (fun d => d.parameters.length) = some 2 := by decide +kernel
theorem hdS_X11_change : yX11_change.cls ≠ "java/lang/invoke/MethodHandle" ∧ yX11_change.cls ≠ "java/lang/invoke/VarHandle" ∧ (parseMethodDescriptor yX11_change.desc).map (fun d => d.parameters.length) = some 2 := by decide +kernel
theorem hdV_X11_check : yX11_check.cls = RX11 ∧ yX11_check.cls ≠ "java/lang/invoke/MethodHandle" ∧ yX11_check.cls ≠ "java/lang/invoke/VarHandle" ∧ (parseMethodDescriptor yX11_check.desc).map (fun d => d.parameters.length) = some 0 := by decide +kernel
theorem hdS_X11_check : yX11_check.cls ≠ "java/lang/invoke/MethodHandle" ∧ yX11_check.cls ≠ "java/lang/invoke/VarHandle" ∧ (parseMethodDescriptor yX11_check.desc).map (fun d => d.parameters.length) = some 0 := by decide +kernel
theorem hdV_X11_commonDivisor : yX11_commonDivisor.cls = RX11 ∧ yX11_commonDivisor.cls ≠ "java/lang/invoke/MethodHandle" ∧ yX11_commonDivisor.cls ≠ "java/lang/invoke/VarHandle" ∧ (parseMethodDescriptor yX11_commonDivisor.desc).map (fun d => d.parameters.length) = some 2 := by decide +kernel
theorem hdS_X11_commonDivisor : yX11_commonDivisor.cls ≠ "java/lang/invoke/MethodHandle" ∧ yX11_commonDivisor.cls ≠ "java/lang/invoke/VarHandle" ∧ (parseMethodDescriptor yX11_commonDivisor.desc).map (fun d => d.parameters.length) = some 2 := by decide +kernel
theorem hdV_X11_count : yX11_count.cls = RX11 ∧ yX11_count.cls ≠ "java/lang/invoke/MethodHandle" ∧ yX11_count.cls ≠ "java/lang/invoke/VarHandle" ∧ (parseMethodDescriptor yX11_count.desc).map (fun d => d.parameters.length) = some 1 := by decide +kernel
theorem hdS_X11_count : yX11_count.cls ≠ "java/lang/invoke/MethodHandle" ∧ yX11_count.cls ≠ "java/lang/invoke/VarHandle" ∧ (parseMethodDescriptor yX11_count.desc).map (fun d => d.parameters.length) = some 1 := by decide +kernel
theorem hdV_X11_draws : yX11_draws.cls = RX11 ∧ yX11_draws.cls ≠ "java/lang/invoke/MethodHandle" ∧ yX11_draws.cls ≠ "java/lang/invoke/VarHandle" ∧ (parseMethodDescriptor yX11_draws.desc).map (fun d => d.parameters.length) = some 1 := by decide +kernel
theorem hdS_X11_draws : yX11_draws.cls ≠ "java/lang/invoke/MethodHandle" ∧ yX11_draws.cls ≠ "java/lang/invoke/VarHandle" ∧ (parseMethodDescriptor yX11_draws.desc).map (fun d => d.parameters.length) = some 1 := by decide +kernel
theorem hdV_X11_empties : yX11_empties.cls = RX11 ∧ yX11_empties.cls ≠ "java/lang/invoke/MethodHandle" ∧ yX11_empties.cls ≠ "java/lang/invoke/VarHandle" ∧ (parseMethodDescriptor yX11_empties.desc).map (fun d => d.parameters.length) = some 1 := by decide +kernel
theorem hdS_X11_empties : yX11_empties.cls ≠ "java/lang/invoke/MethodHandle" ∧ yX11_empties.cls ≠ "java/lang/invoke/VarHandle" ∧ (parseMethodDescriptor yX11_empties.desc).map (fun d => d.parameters.length) = some 1 := by decide +kernel
theorem hdV_X11_fails : yX11_fails.cls = RX11 ∧ yX11_fails.cls ≠ "java/lang/invoke/MethodHandle" ∧ yX11_fails.cls ≠ "java/lang/invoke/VarHandle" ∧ (parseMethodDescriptor yX11_fails.desc).map (fun d => d.parameters.length) = some 1 := by decide +kernel
theorem hdS_X11_fails : yX11_fails.cls ≠ "java/lang/invoke/MethodHandle" ∧ yX11_fails.cls ≠ "java/lang/invoke/VarHandle" ∧ (parseMethodDescriptor yX11_fails.desc).map (fun d => d.parameters.length) = some 1 := by decide +kernel
theorem hdV_X11_feed : yX11_feed.cls = RX11 ∧ yX11_feed.cls ≠ "java/lang/invoke/MethodHandle" ∧ yX11_feed.cls ≠ "java/lang/invoke/VarHandle" ∧ (parseMethodDescriptor yX11_feed.desc).map (fun d => d.parameters.length) = some 2 := by decide +kernel
theorem hdS_X11_feed : yX11_feed.cls ≠ "java/lang/invoke/MethodHandle" ∧ yX11_feed.cls ≠ "java/lang/invoke/VarHandle" ∧ (parseMethodDescriptor yX11_feed.desc).map (fun d => d.parameters.length) = some 2 := by decide +kernel
theorem hdV_X11_figures : yX11_figures.cls = RX11 ∧ yX11_figures.cls ≠ "java/lang/invoke/MethodHandle" ∧ yX11_figures.cls ≠ "java/lang/invoke/VarHandle" ∧ (parseMethodDescriptor yX11_figures.desc).map (fun d => d.parameters.length) = some 2 := by decide +kernel
theorem hdS_X11_figures : yX11_figures.cls ≠ "java/lang/invoke/MethodHandle" ∧ yX11_figures.cls ≠ "java/lang/invoke/VarHandle" ∧ (parseMethodDescriptor yX11_figures.desc).map (fun d => d.parameters.length) = some 2 := by decide +kernel
theorem hdV_X11_flies : yX11_flies.cls = RX11 ∧ yX11_flies.cls ≠ "java/lang/invoke/MethodHandle" ∧ yX11_flies.cls ≠ "java/lang/invoke/VarHandle" ∧ (parseMethodDescriptor yX11_flies.desc).map (fun d => d.parameters.length) = some 1 := by decide +kernel
theorem hdS_X11_flies : yX11_flies.cls ≠ "java/lang/invoke/MethodHandle" ∧ yX11_flies.cls ≠ "java/lang/invoke/VarHandle" ∧ (parseMethodDescriptor yX11_flies.desc).map (fun d => d.parameters.length) = some 1 := by decide +kernel
theorem hdV_X11_fly : yX11_fly.cls = RX11 ∧ yX11_fly.cls ≠ "java/lang/invoke/MethodHandle" ∧ yX11_fly.cls ≠ "java/lang/invoke/VarHandle" ∧ (parseMethodDescriptor yX11_fly.desc).map (fun d => d.parameters.length) = some 1 := by decide +kernel
theorem hdS_X11_fly : yX11_fly.cls ≠ "java/lang/invoke/MethodHandle" ∧ yX11_fly.cls ≠ "java/lang/invoke/VarHandle" ∧ (parseMethodDescriptor yX11_fly.desc).map (fun d => d.parameters.length) = some 1 := by decide +kernel
theorem hdV_X11_flyRow : yX11_flyRow.cls = RX11 ∧ yX11_flyRow.cls ≠ "java/lang/invoke/MethodHandle" ∧ yX11_flyRow.cls ≠ "java/lang/invoke/VarHandle" ∧ (parseMethodDescriptor yX11_flyRow.desc).map (fun d => d.parameters.length) = some 2 := by decide +kernel
theorem hdS_X11_flyRow : yX11_flyRow.cls ≠ "java/lang/invoke/MethodHandle" ∧ yX11_flyRow.cls ≠ "java/lang/invoke/VarHandle" ∧ (parseMethodDescriptor yX11_flyRow.desc).map (fun d => d.parameters.length) = some 2 := by decide +kernel
theorem hdV_X11_image : yX11_image.cls = RX11 ∧ yX11_image.cls ≠ "java/lang/invoke/MethodHandle" ∧ yX11_image.cls ≠ "java/lang/invoke/VarHandle" ∧ (parseMethodDescriptor yX11_image.desc).map (fun d => d.parameters.length) = some 0 := by decide +kernel
theorem hdS_X11_image : yX11_image.cls ≠ "java/lang/invoke/MethodHandle" ∧ yX11_image.cls ≠ "java/lang/invoke/VarHandle" ∧ (parseMethodDescriptor yX11_image.desc).map (fun d => d.parameters.length) = some 0 := by decide +kernel
theorem hdV_X11_isEmptiedBy : yX11_isEmptiedBy.cls = RX11 ∧ yX11_isEmptiedBy.cls ≠ "java/lang/invoke/MethodHandle" ∧ yX11_isEmptiedBy.cls ≠ "java/lang/invoke/VarHandle" ∧ (parseMethodDescriptor yX11_isEmptiedBy.desc).map (fun d => d.parameters.length) = some 1 := by decide +kernel
theorem hdS_X11_isEmptiedBy : yX11_isEmptiedBy.cls ≠ "java/lang/invoke/MethodHandle" ∧ yX11_isEmptiedBy.cls ≠ "java/lang/invoke/VarHandle" ∧ (parseMethodDescriptor yX11_isEmptiedBy.desc).map (fun d => d.parameters.length) = some 1 := by decide +kernel
theorem hdV_X11_isMissing : yX11_isMissing.cls = RX11 ∧ yX11_isMissing.cls ≠ "java/lang/invoke/MethodHandle" ∧ yX11_isMissing.cls ≠ "java/lang/invoke/VarHandle" ∧ (parseMethodDescriptor yX11_isMissing.desc).map (fun d => d.parameters.length) = some 1 := by decide +kernel
theorem hdS_X11_isMissing : yX11_isMissing.cls ≠ "java/lang/invoke/MethodHandle" ∧ yX11_isMissing.cls ≠ "java/lang/invoke/VarHandle" ∧ (parseMethodDescriptor yX11_isMissing.desc).map (fun d => d.parameters.length) = some 1 := by decide +kernel
theorem hdV_X11_isOf : yX11_isOf.cls = RX11 ∧ yX11_isOf.cls ≠ "java/lang/invoke/MethodHandle" ∧ yX11_isOf.cls ≠ "java/lang/invoke/VarHandle" ∧ (parseMethodDescriptor yX11_isOf.desc).map (fun d => d.parameters.length) = some 2 := by decide +kernel
theorem hdS_X11_isOf : yX11_isOf.cls ≠ "java/lang/invoke/MethodHandle" ∧ yX11_isOf.cls ≠ "java/lang/invoke/VarHandle" ∧ (parseMethodDescriptor yX11_isOf.desc).map (fun d => d.parameters.length) = some 2 := by decide +kernel
theorem hdV_X11_isPost : yX11_isPost.cls = RX11 ∧ yX11_isPost.cls ≠ "java/lang/invoke/MethodHandle" ∧ yX11_isPost.cls ≠ "java/lang/invoke/VarHandle" ∧ (parseMethodDescriptor yX11_isPost.desc).map (fun d => d.parameters.length) = some 1 := by decide +kernel
theorem hdS_X11_isPost : yX11_isPost.cls ≠ "java/lang/invoke/MethodHandle" ∧ yX11_isPost.cls ≠ "java/lang/invoke/VarHandle" ∧ (parseMethodDescriptor yX11_isPost.desc).map (fun d => d.parameters.length) = some 1 := by decide +kernel
theorem hdV_X11_isSheet : yX11_isSheet.cls = RX11 ∧ yX11_isSheet.cls ≠ "java/lang/invoke/MethodHandle" ∧ yX11_isSheet.cls ≠ "java/lang/invoke/VarHandle" ∧ (parseMethodDescriptor yX11_isSheet.desc).map (fun d => d.parameters.length) = some 1 := by decide +kernel
theorem hdS_X11_isSheet : yX11_isSheet.cls ≠ "java/lang/invoke/MethodHandle" ∧ yX11_isSheet.cls ≠ "java/lang/invoke/VarHandle" ∧ (parseMethodDescriptor yX11_isSheet.desc).map (fun d => d.parameters.length) = some 1 := by decide +kernel
theorem hdV_X11_isStander : yX11_isStander.cls = RX11 ∧ yX11_isStander.cls ≠ "java/lang/invoke/MethodHandle" ∧ yX11_isStander.cls ≠ "java/lang/invoke/VarHandle" ∧ (parseMethodDescriptor yX11_isStander.desc).map (fun d => d.parameters.length) = some 1 := by decide +kernel
theorem hdS_X11_isStander : yX11_isStander.cls ≠ "java/lang/invoke/MethodHandle" ∧ yX11_isStander.cls ≠ "java/lang/invoke/VarHandle" ∧ (parseMethodDescriptor yX11_isStander.desc).map (fun d => d.parameters.length) = some 1 := by decide +kernel
theorem hdV_X11_isWidth : yX11_isWidth.cls = RX11 ∧ yX11_isWidth.cls ≠ "java/lang/invoke/MethodHandle" ∧ yX11_isWidth.cls ≠ "java/lang/invoke/VarHandle" ∧ (parseMethodDescriptor yX11_isWidth.desc).map (fun d => d.parameters.length) = some 1 := by decide +kernel
theorem hdS_X11_isWidth : yX11_isWidth.cls ≠ "java/lang/invoke/MethodHandle" ∧ yX11_isWidth.cls ≠ "java/lang/invoke/VarHandle" ∧ (parseMethodDescriptor yX11_isWidth.desc).map (fun d => d.parameters.length) = some 1 := by decide +kernel
theorem hdV_X11_judge : yX11_judge.cls = RX11 ∧ yX11_judge.cls ≠ "java/lang/invoke/MethodHandle" ∧ yX11_judge.cls ≠ "java/lang/invoke/VarHandle" ∧ (parseMethodDescriptor yX11_judge.desc).map (fun d => d.parameters.length) = some 1 := by decide +kernel
theorem hdS_X11_judge : yX11_judge.cls ≠ "java/lang/invoke/MethodHandle" ∧ yX11_judge.cls ≠ "java/lang/invoke/VarHandle" ∧ (parseMethodDescriptor yX11_judge.desc).map (fun d => d.parameters.length) = some 1 := by decide +kernel
theorem hdV_X11_lastOne : yX11_lastOne.cls = RX11 ∧ yX11_lastOne.cls ≠ "java/lang/invoke/MethodHandle" ∧ yX11_lastOne.cls ≠ "java/lang/invoke/VarHandle" ∧ (parseMethodDescriptor yX11_lastOne.desc).map (fun d => d.parameters.length) = some 0 := by decide +kernel
theorem hdS_X11_lastOne : yX11_lastOne.cls ≠ "java/lang/invoke/MethodHandle" ∧ yX11_lastOne.cls ≠ "java/lang/invoke/VarHandle" ∧ (parseMethodDescriptor yX11_lastOne.desc).map (fun d => d.parameters.length) = some 0 := by decide +kernel
theorem hdV_X11_lasts : yX11_lasts.cls = RX11 ∧ yX11_lasts.cls ≠ "java/lang/invoke/MethodHandle" ∧ yX11_lasts.cls ≠ "java/lang/invoke/VarHandle" ∧ (parseMethodDescriptor yX11_lasts.desc).map (fun d => d.parameters.length) = some 1 := by decide +kernel
theorem hdS_X11_lasts : yX11_lasts.cls ≠ "java/lang/invoke/MethodHandle" ∧ yX11_lasts.cls ≠ "java/lang/invoke/VarHandle" ∧ (parseMethodDescriptor yX11_lasts.desc).map (fun d => d.parameters.length) = some 1 := by decide +kernel
theorem hdV_X11_lookAhead : yX11_lookAhead.cls = RX11 ∧ yX11_lookAhead.cls ≠ "java/lang/invoke/MethodHandle" ∧ yX11_lookAhead.cls ≠ "java/lang/invoke/VarHandle" ∧ (parseMethodDescriptor yX11_lookAhead.desc).map (fun d => d.parameters.length) = some 1 := by decide +kernel
theorem hdS_X11_lookAhead : yX11_lookAhead.cls ≠ "java/lang/invoke/MethodHandle" ∧ yX11_lookAhead.cls ≠ "java/lang/invoke/VarHandle" ∧ (parseMethodDescriptor yX11_lookAhead.desc).map (fun d => d.parameters.length) = some 1 := by decide +kernel
theorem hdV_X11_lowestBits : yX11_lowestBits.cls = RX11 ∧ yX11_lowestBits.cls ≠ "java/lang/invoke/MethodHandle" ∧ yX11_lowestBits.cls ≠ "java/lang/invoke/VarHandle" ∧ (parseMethodDescriptor yX11_lowestBits.desc).map (fun d => d.parameters.length) = some 2 := by decide +kernel
theorem hdS_X11_lowestBits : yX11_lowestBits.cls ≠ "java/lang/invoke/MethodHandle" ∧ yX11_lowestBits.cls ≠ "java/lang/invoke/VarHandle" ∧ (parseMethodDescriptor yX11_lowestBits.desc).map (fun d => d.parameters.length) = some 2 := by decide +kernel
theorem hdV_X11_minutes : yX11_minutes.cls = RX11 ∧ yX11_minutes.cls ≠ "java/lang/invoke/MethodHandle" ∧ yX11_minutes.cls ≠ "java/lang/invoke/VarHandle" ∧ (parseMethodDescriptor yX11_minutes.desc).map (fun d => d.parameters.length) = some 1 := by decide +kernel
theorem hdS_X11_minutes : yX11_minutes.cls ≠ "java/lang/invoke/MethodHandle" ∧ yX11_minutes.cls ≠ "java/lang/invoke/VarHandle" ∧ (parseMethodDescriptor yX11_minutes.desc).map (fun d => d.parameters.length) = some 1 := by decide +kernel
theorem hdV_X11_move : yX11_move.cls = RX11 ∧ yX11_move.cls ≠ "java/lang/invoke/MethodHandle" ∧ yX11_move.cls ≠ "java/lang/invoke/VarHandle" ∧ (parseMethodDescriptor yX11_move.desc).map (fun d => d.parameters.length) = some 5 := by decide +kernel
theorem hdS_X11_move : yX11_move.cls ≠ "java/lang/invoke/MethodHandle" ∧ yX11_move.cls ≠ "java/lang/invoke/VarHandle" ∧ (parseMethodDescriptor yX11_move.desc).map (fun d => d.parameters.length) = some 5 := by decide +kernel
theorem hdV_X11_patience : yX11_patience.cls = RX11 ∧ yX11_patience.cls ≠ "java/lang/invoke/MethodHandle" ∧ yX11_patience.cls ≠ "java/lang/invoke/VarHandle" ∧ (parseMethodDescriptor yX11_patience.desc).map (fun d => d.parameters.length) = some 2 := by decide +kernel
theorem hdS_X11_patience : yX11_patience.cls ≠ "java/lang/invoke/MethodHandle" ∧ yX11_patience.cls ≠ "java/lang/invoke/VarHandle" ∧ (parseMethodDescriptor yX11_patience.desc).map (fun d => d.parameters.length) = some 2 := by decide +kernel
theorem hdV_X11_poke : yX11_poke.cls = RX11 ∧ yX11_poke.cls ≠ "java/lang/invoke/MethodHandle" ∧ yX11_poke.cls ≠ "java/lang/invoke/VarHandle" ∧ (parseMethodDescriptor yX11_poke.desc).map (fun d => d.parameters.length) = some 1 := by decide +kernel
theorem hdS_X11_poke : yX11_poke.cls ≠ "java/lang/invoke/MethodHandle" ∧ yX11_poke.cls ≠ "java/lang/invoke/VarHandle" ∧ (parseMethodDescriptor yX11_poke.desc).map (fun d => d.parameters.length) = some 1 := by decide +kernel
theorem hdV_X11_put : yX11_put.cls = RX11 ∧ yX11_put.cls ≠ "java/lang/invoke/MethodHandle" ∧ yX11_put.cls ≠ "java/lang/invoke/VarHandle" ∧ (parseMethodDescriptor yX11_put.desc).map (fun d => d.parameters.length) = some 3 := by decide +kernel
theorem hdS_X11_put : yX11_put.cls ≠ "java/lang/invoke/MethodHandle" ∧ yX11_put.cls ≠ "java/lang/invoke/VarHandle" ∧ (parseMethodDescriptor yX11_put.desc).map (fun d => d.parameters.length) = some 3 := by decide +kernel
theorem hdV_X11_restore : yX11_restore.cls = RX11 ∧ yX11_restore.cls ≠ "java/lang/invoke/MethodHandle" ∧ yX11_restore.cls ≠ "java/lang/invoke/VarHandle" ∧ (parseMethodDescriptor yX11_restore.desc).map (fun d => d.parameters.length) = some 0 := by decide +kernel
theorem hdS_X11_restore : yX11_restore.cls ≠ "java/lang/invoke/MethodHandle" ∧ yX11_restore.cls ≠ "java/lang/invoke/VarHandle" ∧ (parseMethodDescriptor yX11_restore.desc).map (fun d => d.parameters.length) = some 0 := by decide +kernel
theorem hdV_X11_round : yX11_round.cls = RX11 ∧ yX11_round.cls ≠ "java/lang/invoke/MethodHandle" ∧ yX11_round.cls ≠ "java/lang/invoke/VarHandle" ∧ (parseMethodDescriptor yX11_round.desc).map (fun d => d.parameters.length) = some 3 := by decide +kernel
theorem hdS_X11_round : yX11_round.cls ≠ "java/lang/invoke/MethodHandle" ∧ yX11_round.cls ≠ "java/lang/invoke/VarHandle" ∧ (parseMethodDescriptor yX11_round.desc).map (fun d => d.parameters.length) = some 3 := by decide +kernel
theorem hdV_X11_seed : yX11_seed.cls = RX11 ∧ yX11_seed.cls ≠ "java/lang/invoke/MethodHandle" ∧ yX11_seed.cls ≠ "java/lang/invoke/VarHandle" ∧ (parseMethodDescriptor yX11_seed.desc).map (fun d => d.parameters.length) = some 1 := by decide +kernel
theorem hdS_X11_seed : yX11_seed.cls ≠ "java/lang/invoke/MethodHandle" ∧ yX11_seed.cls ≠ "java/lang/invoke/VarHandle" ∧ (parseMethodDescriptor yX11_seed.desc).map (fun d => d.parameters.length) = some 1 := by decide +kernel
theorem hdV_X11_sheet : yX11_sheet.cls = RX11 ∧ yX11_sheet.cls ≠ "java/lang/invoke/MethodHandle" ∧ yX11_sheet.cls ≠ "java/lang/invoke/VarHandle" ∧ (parseMethodDescriptor yX11_sheet.desc).map (fun d => d.parameters.length) = some 3 := by decide +kernel
theorem hdS_X11_sheet : yX11_sheet.cls ≠ "java/lang/invoke/MethodHandle" ∧ yX11_sheet.cls ≠ "java/lang/invoke/VarHandle" ∧ (parseMethodDescriptor yX11_sheet.desc).map (fun d => d.parameters.length) = some 3 := by decide +kernel
theorem hdV_X11_slate : yX11_slate.cls = RX11 ∧ yX11_slate.cls ≠ "java/lang/invoke/MethodHandle" ∧ yX11_slate.cls ≠ "java/lang/invoke/VarHandle" ∧ (parseMethodDescriptor yX11_slate.desc).map (fun d => d.parameters.length) = some 2 := by decide +kernel
theorem hdS_X11_slate : yX11_slate.cls ≠ "java/lang/invoke/MethodHandle" ∧ yX11_slate.cls ≠ "java/lang/invoke/VarHandle" ∧ (parseMethodDescriptor yX11_slate.desc).map (fun d => d.parameters.length) = some 2 := by decide +kernel
theorem hdV_X11_stand : yX11_stand.cls = RX11 ∧ yX11_stand.cls ≠ "java/lang/invoke/MethodHandle" ∧ yX11_stand.cls ≠ "java/lang/invoke/VarHandle" ∧ (parseMethodDescriptor yX11_stand.desc).map (fun d => d.parameters.length) = some 3 := by decide +kernel
theorem hdS_X11_stand : yX11_stand.cls ≠ "java/lang/invoke/MethodHandle" ∧ yX11_stand.cls ≠ "java/lang/invoke/VarHandle" ∧ (parseMethodDescriptor yX11_stand.desc).map (fun d => d.parameters.length) = some 3 := by decide +kernel
theorem hdV_X11_stander : yX11_stander.cls = RX11 ∧ yX11_stander.cls ≠ "java/lang/invoke/MethodHandle" ∧ yX11_stander.cls ≠ "java/lang/invoke/VarHandle" ∧ (parseMethodDescriptor yX11_stander.desc).map (fun d => d.parameters.length) = some 2 := by decide +kernel
theorem hdS_X11_stander : yX11_stander.cls ≠ "java/lang/invoke/MethodHandle" ∧ yX11_stander.cls ≠ "java/lang/invoke/VarHandle" ∧ (parseMethodDescriptor yX11_stander.desc).map (fun d => d.parameters.length) = some 2 := by decide +kernel
theorem hdV_X11_standerIs : yX11_standerIs.cls = RX11 ∧ yX11_standerIs.cls ≠ "java/lang/invoke/MethodHandle" ∧ yX11_standerIs.cls ≠ "java/lang/invoke/VarHandle" ∧ (parseMethodDescriptor yX11_standerIs.desc).map (fun d => d.parameters.length) = some 2 := by decide +kernel
theorem hdS_X11_standerIs : yX11_standerIs.cls ≠ "java/lang/invoke/MethodHandle" ∧ yX11_standerIs.cls ≠ "java/lang/invoke/VarHandle" ∧ (parseMethodDescriptor yX11_standerIs.desc).map (fun d => d.parameters.length) = some 2 := by decide +kernel
theorem hdV_X11_standing : yX11_standing.cls = RX11 ∧ yX11_standing.cls ≠ "java/lang/invoke/MethodHandle" ∧ yX11_standing.cls ≠ "java/lang/invoke/VarHandle" ∧ (parseMethodDescriptor yX11_standing.desc).map (fun d => d.parameters.length) = some 1 := by decide +kernel
theorem hdS_X11_standing : yX11_standing.cls ≠ "java/lang/invoke/MethodHandle" ∧ yX11_standing.cls ≠ "java/lang/invoke/VarHandle" ∧ (parseMethodDescriptor yX11_standing.desc).map (fun d => d.parameters.length) = some 1 := by decide +kernel
theorem hdV_X11_sun : yX11_sun.cls = RX11 ∧ yX11_sun.cls ≠ "java/lang/invoke/MethodHandle" ∧ yX11_sun.cls ≠ "java/lang/invoke/VarHandle" ∧ (parseMethodDescriptor yX11_sun.desc).map (fun d => d.parameters.length) = some 1 := by decide +kernel
theorem hdS_X11_sun : yX11_sun.cls ≠ "java/lang/invoke/MethodHandle" ∧ yX11_sun.cls ≠ "java/lang/invoke/VarHandle" ∧ (parseMethodDescriptor yX11_sun.desc).map (fun d => d.parameters.length) = some 1 := by decide +kernel
theorem hdV_X11_swap : yX11_swap.cls = RX11 ∧ yX11_swap.cls ≠ "java/lang/invoke/MethodHandle" ∧ yX11_swap.cls ≠ "java/lang/invoke/VarHandle" ∧ (parseMethodDescriptor yX11_swap.desc).map (fun d => d.parameters.length) = some 2 := by decide +kernel
theorem hdS_X11_swap : yX11_swap.cls ≠ "java/lang/invoke/MethodHandle" ∧ yX11_swap.cls ≠ "java/lang/invoke/VarHandle" ∧ (parseMethodDescriptor yX11_swap.desc).map (fun d => d.parameters.length) = some 2 := by decide +kernel
theorem hdV_X11_tell : yX11_tell.cls = RX11 ∧ yX11_tell.cls ≠ "java/lang/invoke/MethodHandle" ∧ yX11_tell.cls ≠ "java/lang/invoke/VarHandle" ∧ (parseMethodDescriptor yX11_tell.desc).map (fun d => d.parameters.length) = some 1 := by decide +kernel
theorem hdS_X11_tell : yX11_tell.cls ≠ "java/lang/invoke/MethodHandle" ∧ yX11_tell.cls ≠ "java/lang/invoke/VarHandle" ∧ (parseMethodDescriptor yX11_tell.desc).map (fun d => d.parameters.length) = some 1 := by decide +kernel
theorem hdV_X11_text : yX11_text.cls = RX11 ∧ yX11_text.cls ≠ "java/lang/invoke/MethodHandle" ∧ yX11_text.cls ≠ "java/lang/invoke/VarHandle" ∧ (parseMethodDescriptor yX11_text.desc).map (fun d => d.parameters.length) = some 1 := by decide +kernel
theorem hdS_X11_text : yX11_text.cls ≠ "java/lang/invoke/MethodHandle" ∧ yX11_text.cls ≠ "java/lang/invoke/VarHandle" ∧ (parseMethodDescriptor yX11_text.desc).map (fun d => d.parameters.length) = some 1 := by decide +kernel
theorem hdV_X11_then : yX11_then.cls = RX11 ∧ yX11_then.cls ≠ "java/lang/invoke/MethodHandle" ∧ yX11_then.cls ≠ "java/lang/invoke/VarHandle" ∧ (parseMethodDescriptor yX11_then.desc).map (fun d => d.parameters.length) = some 3 := by decide +kernel
theorem hdS_X11_then : yX11_then.cls ≠ "java/lang/invoke/MethodHandle" ∧ yX11_then.cls ≠ "java/lang/invoke/VarHandle" ∧ (parseMethodDescriptor yX11_then.desc).map (fun d => d.parameters.length) = some 3 := by decide +kernel
theorem hdV_X11_told : yX11_told.cls = RX11 ∧ yX11_told.cls ≠ "java/lang/invoke/MethodHandle" ∧ yX11_told.cls ≠ "java/lang/invoke/VarHandle" ∧ (parseMethodDescriptor yX11_told.desc).map (fun d => d.parameters.length) = some 1 := by decide +kernel
theorem hdS_X11_told : yX11_told.cls ≠ "java/lang/invoke/MethodHandle" ∧ yX11_told.cls ≠ "java/lang/invoke/VarHandle" ∧ (parseMethodDescriptor yX11_told.desc).map (fun d => d.parameters.length) = some 1 := by decide +kernel
theorem hdV_X11_untell : yX11_untell.cls = RX11 ∧ yX11_untell.cls ≠ "java/lang/invoke/MethodHandle" ∧ yX11_untell.cls ≠ "java/lang/invoke/VarHandle" ∧ (parseMethodDescriptor yX11_untell.desc).map (fun d => d.parameters.length) = some 1 := by decide +kernel
theorem hdS_X11_untell : yX11_untell.cls ≠ "java/lang/invoke/MethodHandle" ∧ yX11_untell.cls ≠ "java/lang/invoke/VarHandle" ∧ (parseMethodDescriptor yX11_untell.desc).map (fun d => d.parameters.length) = some 1 := by decide +kernel
theorem hdV_X11_voice : yX11_voice.cls = RX11 ∧ yX11_voice.cls ≠ "java/lang/invoke/MethodHandle" ∧ yX11_voice.cls ≠ "java/lang/invoke/VarHandle" ∧ (parseMethodDescriptor yX11_voice.desc).map (fun d => d.parameters.length) = some 3 := by decide +kernel
theorem hdS_X11_voice : yX11_voice.cls ≠ "java/lang/invoke/MethodHandle" ∧ yX11_voice.cls ≠ "java/lang/invoke/VarHandle" ∧ (parseMethodDescriptor yX11_voice.desc).map (fun d => d.parameters.length) = some 3 := by decide +kernel
theorem hdV_X11_whose : yX11_whose.cls = RX11 ∧ yX11_whose.cls ≠ "java/lang/invoke/MethodHandle" ∧ yX11_whose.cls ≠ "java/lang/invoke/VarHandle" ∧ (parseMethodDescriptor yX11_whose.desc).map (fun d => d.parameters.length) = some 1 := by decide +kernel
theorem hdS_X11_whose : yX11_whose.cls ≠ "java/lang/invoke/MethodHandle" ∧ yX11_whose.cls ≠ "java/lang/invoke/VarHandle" ∧ (parseMethodDescriptor yX11_whose.desc).map (fun d => d.parameters.length) = some 1 := by decide +kernel
theorem hdV_X11_within : yX11_within.cls = RX11 ∧ yX11_within.cls ≠ "java/lang/invoke/MethodHandle" ∧ yX11_within.cls ≠ "java/lang/invoke/VarHandle" ∧ (parseMethodDescriptor yX11_within.desc).map (fun d => d.parameters.length) = some 3 := by decide +kernel
theorem hdS_X11_within : yX11_within.cls ≠ "java/lang/invoke/MethodHandle" ∧ yX11_within.cls ≠ "java/lang/invoke/VarHandle" ∧ (parseMethodDescriptor yX11_within.desc).map (fun d => d.parameters.length) = some 3 := by decide +kernel
theorem hdV_X0_biting : yX0_biting.cls = RX0 ∧ yX0_biting.cls ≠ "java/lang/invoke/MethodHandle" ∧ yX0_biting.cls ≠ "java/lang/invoke/VarHandle" ∧ (parseMethodDescriptor yX0_biting.desc).map (fun d => d.parameters.length) = some 1 := by decide +kernel
theorem hdS_X0_biting : yX0_biting.cls ≠ "java/lang/invoke/MethodHandle" ∧ yX0_biting.cls ≠ "java/lang/invoke/VarHandle" ∧ (parseMethodDescriptor yX0_biting.desc).map (fun d => d.parameters.length) = some 1 := by decide +kernel
theorem hdSU_X0_biting : yX0_biting.name ≠ "<init>" ∧ (parseMethodDescriptor yX0_biting.desc).map (fun d => d.parameters.length) = some 1 := by decide +kernel
theorem hdV_X0_holds : yX0_holds.cls = RX0 ∧ yX0_holds.cls ≠ "java/lang/invoke/MethodHandle" ∧ yX0_holds.cls ≠ "java/lang/invoke/VarHandle" ∧ (parseMethodDescriptor yX0_holds.desc).map (fun d => d.parameters.length) = some 2 := by decide +kernel
theorem hdS_X0_holds : yX0_holds.cls ≠ "java/lang/invoke/MethodHandle" ∧ yX0_holds.cls ≠ "java/lang/invoke/VarHandle" ∧ (parseMethodDescriptor yX0_holds.desc).map (fun d => d.parameters.length) = some 2 := by decide +kernel
theorem hdSU_X0_holds : yX0_holds.name ≠ "<init>" ∧ (parseMethodDescriptor yX0_holds.desc).map (fun d => d.parameters.length) = some 2 := by decide +kernel
theorem hdV_X0_parts : yX0_parts.cls = RX0 ∧ yX0_parts.cls ≠ "java/lang/invoke/MethodHandle" ∧ yX0_parts.cls ≠ "java/lang/invoke/VarHandle" ∧ (parseMethodDescriptor yX0_parts.desc).map (fun d => d.parameters.length) = some 2 := by decide +kernel
theorem hdS_X0_parts : yX0_parts.cls ≠ "java/lang/invoke/MethodHandle" ∧ yX0_parts.cls ≠ "java/lang/invoke/VarHandle" ∧ (parseMethodDescriptor yX0_parts.desc).map (fun d => d.parameters.length) = some 2 := by decide +kernel
theorem hdSU_X0_parts : yX0_parts.name ≠ "<init>" ∧ (parseMethodDescriptor yX0_parts.desc).map (fun d => d.parameters.length) = some 2 := by decide +kernel
theorem hdV_X0_spending : yX0_spending.cls = RX0 ∧ yX0_spending.cls ≠ "java/lang/invoke/MethodHandle" ∧ yX0_spending.cls ≠ "java/lang/invoke/VarHandle" ∧ (parseMethodDescriptor yX0_spending.desc).map (fun d => d.parameters.length) = some 2 := by decide +kernel
theorem hdS_X0_spending : yX0_spending.cls ≠ "java/lang/invoke/MethodHandle" ∧ yX0_spending.cls ≠ "java/lang/invoke/VarHandle" ∧ (parseMethodDescriptor yX0_spending.desc).map (fun d => d.parameters.length) = some 2 := by decide +kernel
theorem hdSU_X0_spending : yX0_spending.name ≠ "<init>" ∧ (parseMethodDescriptor yX0_spending.desc).map (fun d => d.parameters.length) = some 2 := by decide +kernel
theorem hdV_X1_copyFrom : yX1_copyFrom.cls = RX1 ∧ yX1_copyFrom.cls ≠ "java/lang/invoke/MethodHandle" ∧ yX1_copyFrom.cls ≠ "java/lang/invoke/VarHandle" ∧ (parseMethodDescriptor yX1_copyFrom.desc).map (fun d => d.parameters.length) = some 1 := by decide +kernel
theorem hdS_X1_copyFrom : yX1_copyFrom.cls ≠ "java/lang/invoke/MethodHandle" ∧ yX1_copyFrom.cls ≠ "java/lang/invoke/VarHandle" ∧ (parseMethodDescriptor yX1_copyFrom.desc).map (fun d => d.parameters.length) = some 1 := by decide +kernel
theorem hdSU_X1_copyFrom : yX1_copyFrom.name ≠ "<init>" ∧ (parseMethodDescriptor yX1_copyFrom.desc).map (fun d => d.parameters.length) = some 1 := by decide +kernel
theorem hdV_X1_forget : yX1_forget.cls = RX1 ∧ yX1_forget.cls ≠ "java/lang/invoke/MethodHandle" ∧ yX1_forget.cls ≠ "java/lang/invoke/VarHandle" ∧ (parseMethodDescriptor yX1_forget.desc).map (fun d => d.parameters.length) = some 0 := by decide +kernel
theorem hdS_X1_forget : yX1_forget.cls ≠ "java/lang/invoke/MethodHandle" ∧ yX1_forget.cls ≠ "java/lang/invoke/VarHandle" ∧ (parseMethodDescriptor yX1_forget.desc).map (fun d => d.parameters.length) = some 0 := by decide +kernel
theorem hdSU_X1_forget : yX1_forget.name ≠ "<init>" ∧ (parseMethodDescriptor yX1_forget.desc).map (fun d => d.parameters.length) = some 0 := by decide +kernel
theorem hdV_X1_gives : yX1_gives.cls = RX1 ∧ yX1_gives.cls ≠ "java/lang/invoke/MethodHandle" ∧ yX1_gives.cls ≠ "java/lang/invoke/VarHandle" ∧ (parseMethodDescriptor yX1_gives.desc).map (fun d => d.parameters.length) = some 3 := by decide +kernel
theorem hdS_X1_gives : yX1_gives.cls ≠ "java/lang/invoke/MethodHandle" ∧ yX1_gives.cls ≠ "java/lang/invoke/VarHandle" ∧ (parseMethodDescriptor yX1_gives.desc).map (fun d => d.parameters.length) = some 3 := by decide +kernel
theorem hdSU_X1_gives : yX1_gives.name ≠ "<init>" ∧ (parseMethodDescriptor yX1_gives.desc).map (fun d => d.parameters.length) = some 3 := by decide +kernel
theorem hdV_X1_isMissing : yX1_isMissing.cls = RX1 ∧ yX1_isMissing.cls ≠ "java/lang/invoke/MethodHandle" ∧ yX1_isMissing.cls ≠ "java/lang/invoke/VarHandle" ∧ (parseMethodDescriptor yX1_isMissing.desc).map (fun d => d.parameters.length) = some 0 := by decide +kernel
theorem hdS_X1_isMissing : yX1_isMissing.cls ≠ "java/lang/invoke/MethodHandle" ∧ yX1_isMissing.cls ≠ "java/lang/invoke/VarHandle" ∧ (parseMethodDescriptor yX1_isMissing.desc).map (fun d => d.parameters.length) = some 0 := by decide +kernel
theorem hdSU_X1_isMissing : yX1_isMissing.name ≠ "<init>" ∧ (parseMethodDescriptor yX1_isMissing.desc).map (fun d => d.parameters.length) = some 0 := by decide +kernel
theorem hdV_X1_joined : yX1_joined.cls = RX1 ∧ yX1_joined.cls ≠ "java/lang/invoke/MethodHandle" ∧ yX1_joined.cls ≠ "java/lang/invoke/VarHandle" ∧ (parseMethodDescriptor yX1_joined.desc).map (fun d => d.parameters.length) = some 3 := by decide +kernel
theorem hdS_X1_joined : yX1_joined.cls ≠ "java/lang/invoke/MethodHandle" ∧ yX1_joined.cls ≠ "java/lang/invoke/VarHandle" ∧ (parseMethodDescriptor yX1_joined.desc).map (fun d => d.parameters.length) = some 3 := by decide +kernel
theorem hdSU_X1_joined : yX1_joined.name ≠ "<init>" ∧ (parseMethodDescriptor yX1_joined.desc).map (fun d => d.parameters.length) = some 3 := by decide +kernel
theorem hdV_X1_nextSign : yX1_nextSign.cls = RX1 ∧ yX1_nextSign.cls ≠ "java/lang/invoke/MethodHandle" ∧ yX1_nextSign.cls ≠ "java/lang/invoke/VarHandle" ∧ (parseMethodDescriptor yX1_nextSign.desc).map (fun d => d.parameters.length) = some 0 := by decide +kernel
theorem hdS_X1_nextSign : yX1_nextSign.cls ≠ "java/lang/invoke/MethodHandle" ∧ yX1_nextSign.cls ≠ "java/lang/invoke/VarHandle" ∧ (parseMethodDescriptor yX1_nextSign.desc).map (fun d => d.parameters.length) = some 0 := by decide +kernel
theorem hdSU_X1_nextSign : yX1_nextSign.name ≠ "<init>" ∧ (parseMethodDescriptor yX1_nextSign.desc).map (fun d => d.parameters.length) = some 0 := by decide +kernel
theorem hdV_X1_read : yX1_read.cls = RX1 ∧ yX1_read.cls ≠ "java/lang/invoke/MethodHandle" ∧ yX1_read.cls ≠ "java/lang/invoke/VarHandle" ∧ (parseMethodDescriptor yX1_read.desc).map (fun d => d.parameters.length) = some 2 := by decide +kernel
theorem hdS_X1_read : yX1_read.cls ≠ "java/lang/invoke/MethodHandle" ∧ yX1_read.cls ≠ "java/lang/invoke/VarHandle" ∧ (parseMethodDescriptor yX1_read.desc).map (fun d => d.parameters.length) = some 2 := by decide +kernel
theorem hdSU_X1_read : yX1_read.name ≠ "<init>" ∧ (parseMethodDescriptor yX1_read.desc).map (fun d => d.parameters.length) = some 2 := by decide +kernel
theorem hdV_X1_readBoth : yX1_readBoth.cls = RX1 ∧ yX1_readBoth.cls ≠ "java/lang/invoke/MethodHandle" ∧ yX1_readBoth.cls ≠ "java/lang/invoke/VarHandle" ∧ (parseMethodDescriptor yX1_readBoth.desc).map (fun d => d.parameters.length) = some 1 := by decide +kernel
theorem hdS_X1_readBoth : yX1_readBoth.cls ≠ "java/lang/invoke/MethodHandle" ∧ yX1_readBoth.cls ≠ "java/lang/invoke/VarHandle" ∧ (parseMethodDescriptor yX1_readBoth.desc).map (fun d => d.parameters.length) = some 1 := by decide +kernel
theorem hdSU_X1_readBoth : yX1_readBoth.name ≠ "<init>" ∧ (parseMethodDescriptor yX1_readBoth.desc).map (fun d => d.parameters.length) = some 1 := by decide +kernel
theorem hdV_X1_readBracket : yX1_readBracket.cls = RX1 ∧ yX1_readBracket.cls ≠ "java/lang/invoke/MethodHandle" ∧ yX1_readBracket.cls ≠ "java/lang/invoke/VarHandle" ∧ (parseMethodDescriptor yX1_readBracket.desc).map (fun d => d.parameters.length) = some 1 := by decide +kernel
theorem hdS_X1_readBracket : yX1_readBracket.cls ≠ "java/lang/invoke/MethodHandle" ∧ yX1_readBracket.cls ≠ "java/lang/invoke/VarHandle" ∧ (parseMethodDescriptor yX1_readBracket.desc).map (fun d => d.parameters.length) = some 1 := by decide +kernel
theorem hdSU_X1_readBracket : yX1_readBracket.name ≠ "<init>" ∧ (parseMethodDescriptor yX1_readBracket.desc).map (fun d => d.parameters.length) = some 1 := by decide +kernel
theorem hdV_X1_readCompared : yX1_readCompared.cls = RX1 ∧ yX1_readCompared.cls ≠ "java/lang/invoke/MethodHandle" ∧ yX1_readCompared.cls ≠ "java/lang/invoke/VarHandle" ∧ (parseMethodDescriptor yX1_readCompared.desc).map (fun d => d.parameters.length) = some 1 := by decide +kernel
theorem hdS_X1_readCompared : yX1_readCompared.cls ≠ "java/lang/invoke/MethodHandle" ∧ yX1_readCompared.cls ≠ "java/lang/invoke/VarHandle" ∧ (parseMethodDescriptor yX1_readCompared.desc).map (fun d => d.parameters.length) = some 1 := by decide +kernel
theorem hdSU_X1_readCompared : yX1_readCompared.name ≠ "<init>" ∧ (parseMethodDescriptor yX1_readCompared.desc).map (fun d => d.parameters.length) = some 1 := by decide +kernel
theorem hdV_X1_readEither : yX1_readEither.cls = RX1 ∧ yX1_readEither.cls ≠ "java/lang/invoke/MethodHandle" ∧ yX1_readEither.cls ≠ "java/lang/invoke/VarHandle" ∧ (parseMethodDescriptor yX1_readEither.desc).map (fun d => d.parameters.length) = some 1 := by decide +kernel
theorem hdS_X1_readEither : yX1_readEither.cls ≠ "java/lang/invoke/MethodHandle" ∧ yX1_readEither.cls ≠ "java/lang/invoke/VarHandle" ∧ (parseMethodDescriptor yX1_readEither.desc).map (fun d => d.parameters.length) = some 1 := by decide +kernel
theorem hdSU_X1_readEither : yX1_readEither.name ≠ "<init>" ∧ (parseMethodDescriptor yX1_readEither.desc).map (fun d => d.parameters.length) = some 1 := by decide +kernel
theorem hdV_X1_readNumber : yX1_readNumber.cls = RX1 ∧ yX1_readNumber.cls ≠ "java/lang/invoke/MethodHandle" ∧ yX1_readNumber.cls ≠ "java/lang/invoke/VarHandle" ∧ (parseMethodDescriptor yX1_readNumber.desc).map (fun d => d.parameters.length) = some 0 := by decide +kernel
theorem hdS_X1_readNumber : yX1_readNumber.cls ≠ "java/lang/invoke/MethodHandle" ∧ yX1_readNumber.cls ≠ "java/lang/invoke/VarHandle" ∧ (parseMethodDescriptor yX1_readNumber.desc).map (fun d => d.parameters.length) = some 0 := by decide +kernel
theorem hdSU_X1_readNumber : yX1_readNumber.name ≠ "<init>" ∧ (parseMethodDescriptor yX1_readNumber.desc).map (fun d => d.parameters.length) = some 0 := by decide +kernel
theorem hdV_X1_readProduct : yX1_readProduct.cls = RX1 ∧ yX1_readProduct.cls ≠ "java/lang/invoke/MethodHandle" ∧ yX1_readProduct.cls ≠ "java/lang/invoke/VarHandle" ∧ (parseMethodDescriptor yX1_readProduct.desc).map (fun d => d.parameters.length) = some 1 := by decide +kernel
theorem hdS_X1_readProduct : yX1_readProduct.cls ≠ "java/lang/invoke/MethodHandle" ∧ yX1_readProduct.cls ≠ "java/lang/invoke/VarHandle" ∧ (parseMethodDescriptor yX1_readProduct.desc).map (fun d => d.parameters.length) = some 1 := by decide +kernel
theorem hdSU_X1_readProduct : yX1_readProduct.name ≠ "<init>" ∧ (parseMethodDescriptor yX1_readProduct.desc).map (fun d => d.parameters.length) = some 1 := by decide +kernel
theorem hdV_X1_readSum : yX1_readSum.cls = RX1 ∧ yX1_readSum.cls ≠ "java/lang/invoke/MethodHandle" ∧ yX1_readSum.cls ≠ "java/lang/invoke/VarHandle" ∧ (parseMethodDescriptor yX1_readSum.desc).map (fun d => d.parameters.length) = some 1 := by decide +kernel
theorem hdS_X1_readSum : yX1_readSum.cls ≠ "java/lang/invoke/MethodHandle" ∧ yX1_readSum.cls ≠ "java/lang/invoke/VarHandle" ∧ (parseMethodDescriptor yX1_readSum.desc).map (fun d => d.parameters.length) = some 1 := by decide +kernel
theorem hdSU_X1_readSum : yX1_readSum.name ≠ "<init>" ∧ (parseMethodDescriptor yX1_readSum.desc).map (fun d => d.parameters.length) = some 1 := by decide +kernel
theorem hdV_X1_readUnit : yX1_readUnit.cls = RX1 ∧ yX1_readUnit.cls ≠ "java/lang/invoke/MethodHandle" ∧ yX1_readUnit.cls ≠ "java/lang/invoke/VarHandle" ∧ (parseMethodDescriptor yX1_readUnit.desc).map (fun d => d.parameters.length) = some 1 := by decide +kernel
theorem hdS_X1_readUnit : yX1_readUnit.cls ≠ "java/lang/invoke/MethodHandle" ∧ yX1_readUnit.cls ≠ "java/lang/invoke/VarHandle" ∧ (parseMethodDescriptor yX1_readUnit.desc).map (fun d => d.parameters.length) = some 1 := by decide +kernel
theorem hdSU_X1_readUnit : yX1_readUnit.name ≠ "<init>" ∧ (parseMethodDescriptor yX1_readUnit.desc).map (fun d => d.parameters.length) = some 1 := by decide +kernel
theorem hdV_X1_sees : yX1_sees.cls = RX1 ∧ yX1_sees.cls ≠ "java/lang/invoke/MethodHandle" ∧ yX1_sees.cls ≠ "java/lang/invoke/VarHandle" ∧ (parseMethodDescriptor yX1_sees.desc).map (fun d => d.parameters.length) = some 1 := by decide +kernel
theorem hdS_X1_sees : yX1_sees.cls ≠ "java/lang/invoke/MethodHandle" ∧ yX1_sees.cls ≠ "java/lang/invoke/VarHandle" ∧ (parseMethodDescriptor yX1_sees.desc).map (fun d => d.parameters.length) = some 1 := by decide +kernel
theorem hdSU_X1_sees : yX1_sees.name ≠ "<init>" ∧ (parseMethodDescriptor yX1_sees.desc).map (fun d => d.parameters.length) = some 1 := by decide +kernel
theorem hdV_X1_seesDigit : yX1_seesDigit.cls = RX1 ∧ yX1_seesDigit.cls ≠ "java/lang/invoke/MethodHandle" ∧ yX1_seesDigit.cls ≠ "java/lang/invoke/VarHandle" ∧ (parseMethodDescriptor yX1_seesDigit.desc).map (fun d => d.parameters.length) = some 0 := by decide +kernel
theorem hdS_X1_seesDigit : yX1_seesDigit.cls ≠ "java/lang/invoke/MethodHandle" ∧ yX1_seesDigit.cls ≠ "java/lang/invoke/VarHandle" ∧ (parseMethodDescriptor yX1_seesDigit.desc).map (fun d => d.parameters.length) = some 0 := by decide +kernel
theorem hdSU_X1_seesDigit : yX1_seesDigit.name ≠ "<init>" ∧ (parseMethodDescriptor yX1_seesDigit.desc).map (fun d => d.parameters.length) = some 0 := by decide +kernel
theorem hdV_X1_takeSign : yX1_takeSign.cls = RX1 ∧ yX1_takeSign.cls ≠ "java/lang/invoke/MethodHandle" ∧ yX1_takeSign.cls ≠ "java/lang/invoke/VarHandle" ∧ (parseMethodDescriptor yX1_takeSign.desc).map (fun d => d.parameters.length) = some 0 := by decide +kernel
theorem hdS_X1_takeSign : yX1_takeSign.cls ≠ "java/lang/invoke/MethodHandle" ∧ yX1_takeSign.cls ≠ "java/lang/invoke/VarHandle" ∧ (parseMethodDescriptor yX1_takeSign.desc).map (fun d => d.parameters.length) = some 0 := by decide +kernel
theorem hdSU_X1_takeSign : yX1_takeSign.name ≠ "<init>" ∧ (parseMethodDescriptor yX1_takeSign.desc).map (fun d => d.parameters.length) = some 0 := by decide +kernel
theorem hdV_X1_write : yX1_write.cls = RX1 ∧ yX1_write.cls ≠ "java/lang/invoke/MethodHandle" ∧ yX1_write.cls ≠ "java/lang/invoke/VarHandle" ∧ (parseMethodDescriptor yX1_write.desc).map (fun d => d.parameters.length) = some 1 := by decide +kernel
theorem hdS_X1_write : yX1_write.cls ≠ "java/lang/invoke/MethodHandle" ∧ yX1_write.cls ≠ "java/lang/invoke/VarHandle" ∧ (parseMethodDescriptor yX1_write.desc).map (fun d => d.parameters.length) = some 1 := by decide +kernel
theorem hdSU_X1_write : yX1_write.name ≠ "<init>" ∧ (parseMethodDescriptor yX1_write.desc).map (fun d => d.parameters.length) = some 1 := by decide +kernel
theorem hdV_X2_leans : yX2_leans.cls = RX2 ∧ yX2_leans.cls ≠ "java/lang/invoke/MethodHandle" ∧ yX2_leans.cls ≠ "java/lang/invoke/VarHandle" ∧ (parseMethodDescriptor yX2_leans.desc).map (fun d => d.parameters.length) = some 2 := by decide +kernel
theorem hdS_X2_leans : yX2_leans.cls ≠ "java/lang/invoke/MethodHandle" ∧ yX2_leans.cls ≠ "java/lang/invoke/VarHandle" ∧ (parseMethodDescriptor yX2_leans.desc).map (fun d => d.parameters.length) = some 2 := by decide +kernel
theorem hdSU_X2_leans : yX2_leans.name ≠ "<init>" ∧ (parseMethodDescriptor yX2_leans.desc).map (fun d => d.parameters.length) = some 2 := by decide +kernel
theorem hdV_X2_spending : yX2_spending.cls = RX2 ∧ yX2_spending.cls ≠ "java/lang/invoke/MethodHandle" ∧ yX2_spending.cls ≠ "java/lang/invoke/VarHandle" ∧ (parseMethodDescriptor yX2_spending.desc).map (fun d => d.parameters.length) = some 2 := by decide +kernel
theorem hdS_X2_spending : yX2_spending.cls ≠ "java/lang/invoke/MethodHandle" ∧ yX2_spending.cls ≠ "java/lang/invoke/VarHandle" ∧ (parseMethodDescriptor yX2_spending.desc).map (fun d => d.parameters.length) = some 2 := by decide +kernel
theorem hdSU_X2_spending : yX2_spending.name ≠ "<init>" ∧ (parseMethodDescriptor yX2_spending.desc).map (fun d => d.parameters.length) = some 2 := by decide +kernel
theorem hdV_X3_biting : yX3_biting.cls = RX3 ∧ yX3_biting.cls ≠ "java/lang/invoke/MethodHandle" ∧ yX3_biting.cls ≠ "java/lang/invoke/VarHandle" ∧ (parseMethodDescriptor yX3_biting.desc).map (fun d => d.parameters.length) = some 1 := by decide +kernel
theorem hdS_X3_biting : yX3_biting.cls ≠ "java/lang/invoke/MethodHandle" ∧ yX3_biting.cls ≠ "java/lang/invoke/VarHandle" ∧ (parseMethodDescriptor yX3_biting.desc).map (fun d => d.parameters.length) = some 1 := by decide +kernel
theorem hdSU_X3_biting : yX3_biting.name ≠ "<init>" ∧ (parseMethodDescriptor yX3_biting.desc).map (fun d => d.parameters.length) = some 1 := by decide +kernel
theorem hdV_X3_holds : yX3_holds.cls = RX3 ∧ yX3_holds.cls ≠ "java/lang/invoke/MethodHandle" ∧ yX3_holds.cls ≠ "java/lang/invoke/VarHandle" ∧ (parseMethodDescriptor yX3_holds.desc).map (fun d => d.parameters.length) = some 2 := by decide +kernel
theorem hdS_X3_holds : yX3_holds.cls ≠ "java/lang/invoke/MethodHandle" ∧ yX3_holds.cls ≠ "java/lang/invoke/VarHandle" ∧ (parseMethodDescriptor yX3_holds.desc).map (fun d => d.parameters.length) = some 2 := by decide +kernel
theorem hdSU_X3_holds : yX3_holds.name ≠ "<init>" ∧ (parseMethodDescriptor yX3_holds.desc).map (fun d => d.parameters.length) = some 2 := by decide +kernel
theorem hdV_X3_spending : yX3_spending.cls = RX3 ∧ yX3_spending.cls ≠ "java/lang/invoke/MethodHandle" ∧ yX3_spending.cls ≠ "java/lang/invoke/VarHandle" ∧ (parseMethodDescriptor yX3_spending.desc).map (fun d => d.parameters.length) = some 2 := by decide +kernel
theorem hdS_X3_spending : yX3_spending.cls ≠ "java/lang/invoke/MethodHandle" ∧ yX3_spending.cls ≠ "java/lang/invoke/VarHandle" ∧ (parseMethodDescriptor yX3_spending.desc).map (fun d => d.parameters.length) = some 2 := by decide +kernel
theorem hdSU_X3_spending : yX3_spending.name ≠ "<init>" ∧ (parseMethodDescriptor yX3_spending.desc).map (fun d => d.parameters.length) = some 2 := by decide +kernel
theorem hdV_X3_sways : yX3_sways.cls = RX3 ∧ yX3_sways.cls ≠ "java/lang/invoke/MethodHandle" ∧ yX3_sways.cls ≠ "java/lang/invoke/VarHandle" ∧ (parseMethodDescriptor yX3_sways.desc).map (fun d => d.parameters.length) = some 2 := by decide +kernel
theorem hdS_X3_sways : yX3_sways.cls ≠ "java/lang/invoke/MethodHandle" ∧ yX3_sways.cls ≠ "java/lang/invoke/VarHandle" ∧ (parseMethodDescriptor yX3_sways.desc).map (fun d => d.parameters.length) = some 2 := by decide +kernel
theorem hdSU_X3_sways : yX3_sways.name ≠ "<init>" ∧ (parseMethodDescriptor yX3_sways.desc).map (fun d => d.parameters.length) = some 2 := by decide +kernel
theorem hdV_X4_allPatience : yX4_allPatience.cls = RX4 ∧ yX4_allPatience.cls ≠ "java/lang/invoke/MethodHandle" ∧ yX4_allPatience.cls ≠ "java/lang/invoke/VarHandle" ∧ (parseMethodDescriptor yX4_allPatience.desc).map (fun d => d.parameters.length) = some 0 := by decide +kernel
theorem hdS_X4_allPatience : yX4_allPatience.cls ≠ "java/lang/invoke/MethodHandle" ∧ yX4_allPatience.cls ≠ "java/lang/invoke/VarHandle" ∧ (parseMethodDescriptor yX4_allPatience.desc).map (fun d => d.parameters.length) = some 0 := by decide +kernel
theorem hdSU_X4_allPatience : yX4_allPatience.name ≠ "<init>" ∧ (parseMethodDescriptor yX4_allPatience.desc).map (fun d => d.parameters.length) = some 0 := by decide +kernel
theorem hdV_X4_bite : yX4_bite.cls = RX4 ∧ yX4_bite.cls ≠ "java/lang/invoke/MethodHandle" ∧ yX4_bite.cls ≠ "java/lang/invoke/VarHandle" ∧ (parseMethodDescriptor yX4_bite.desc).map (fun d => d.parameters.length) = some 1 := by decide +kernel
theorem hdS_X4_bite : yX4_bite.cls ≠ "java/lang/invoke/MethodHandle" ∧ yX4_bite.cls ≠ "java/lang/invoke/VarHandle" ∧ (parseMethodDescriptor yX4_bite.desc).map (fun d => d.parameters.length) = some 1 := by decide +kernel
theorem hdSU_X4_bite : yX4_bite.name ≠ "<init>" ∧ (parseMethodDescriptor yX4_bite.desc).map (fun d => d.parameters.length) = some 1 := by decide +kernel
theorem hdV_X4_bits : yX4_bits.cls = RX4 ∧ yX4_bits.cls ≠ "java/lang/invoke/MethodHandle" ∧ yX4_bits.cls ≠ "java/lang/invoke/VarHandle" ∧ (parseMethodDescriptor yX4_bits.desc).map (fun d => d.parameters.length) = some 0 := by decide +kernel
theorem hdS_X4_bits : yX4_bits.cls ≠ "java/lang/invoke/MethodHandle" ∧ yX4_bits.cls ≠ "java/lang/invoke/VarHandle" ∧ (parseMethodDescriptor yX4_bits.desc).map (fun d => d.parameters.length) = some 0 := by decide +kernel
theorem hdSU_X4_bits : yX4_bits.name ≠ "<init>" ∧ (parseMethodDescriptor yX4_bits.desc).map (fun d => d.parameters.length) = some 0 := by decide +kernel
theorem hdV_X4_changePosts : yX4_changePosts.cls = RX4 ∧ yX4_changePosts.cls ≠ "java/lang/invoke/MethodHandle" ∧ yX4_changePosts.cls ≠ "java/lang/invoke/VarHandle" ∧ (parseMethodDescriptor yX4_changePosts.desc).map (fun d => d.parameters.length) = some 2 := by decide +kernel
theorem hdS_X4_changePosts : yX4_changePosts.cls ≠ "java/lang/invoke/MethodHandle" ∧ yX4_changePosts.cls ≠ "java/lang/invoke/VarHandle" ∧ (parseMethodDescriptor yX4_changePosts.desc).map (fun d => d.parameters.length) = some 2 := by decide +kernel
theorem hdSU_X4_changePosts : yX4_changePosts.name ≠ "<init>" ∧ (parseMethodDescriptor yX4_changePosts.desc).map (fun d => d.parameters.length) = some 2 := by decide +kernel
theorem hdV_X4_copyFrom : yX4_copyFrom.cls = RX4 ∧ yX4_copyFrom.cls ≠ "java/lang/invoke/MethodHandle" ∧ yX4_copyFrom.cls ≠ "java/lang/invoke/VarHandle" ∧ (parseMethodDescriptor yX4_copyFrom.desc).map (fun d => d.parameters.length) = some 1 := by decide +kernel
theorem hdS_X4_copyFrom : yX4_copyFrom.cls ≠ "java/lang/invoke/MethodHandle" ∧ yX4_copyFrom.cls ≠ "java/lang/invoke/VarHandle" ∧ (parseMethodDescriptor yX4_copyFrom.desc).map (fun d => d.parameters.length) = some 1 := by decide +kernel
theorem hdSU_X4_copyFrom : yX4_copyFrom.name ≠ "<init>" ∧ (parseMethodDescriptor yX4_copyFrom.desc).map (fun d => d.parameters.length) = some 1 := by decide +kernel
theorem hdV_X4_flyAt : yX4_flyAt.cls = RX4 ∧ yX4_flyAt.cls ≠ "java/lang/invoke/MethodHandle" ∧ yX4_flyAt.cls ≠ "java/lang/invoke/VarHandle" ∧ (parseMethodDescriptor yX4_flyAt.desc).map (fun d => d.parameters.length) = some 1 := by decide +kernel
theorem hdS_X4_flyAt : yX4_flyAt.cls ≠ "java/lang/invoke/MethodHandle" ∧ yX4_flyAt.cls ≠ "java/lang/invoke/VarHandle" ∧ (parseMethodDescriptor yX4_flyAt.desc).map (fun d => d.parameters.length) = some 1 := by decide +kernel
theorem hdSU_X4_flyAt : yX4_flyAt.name ≠ "<init>" ∧ (parseMethodDescriptor yX4_flyAt.desc).map (fun d => d.parameters.length) = some 1 := by decide +kernel
theorem hdV_X4_held : yX4_held.cls = RX4 ∧ yX4_held.cls ≠ "java/lang/invoke/MethodHandle" ∧ yX4_held.cls ≠ "java/lang/invoke/VarHandle" ∧ (parseMethodDescriptor yX4_held.desc).map (fun d => d.parameters.length) = some 1 := by decide +kernel
theorem hdS_X4_held : yX4_held.cls ≠ "java/lang/invoke/MethodHandle" ∧ yX4_held.cls ≠ "java/lang/invoke/VarHandle" ∧ (parseMethodDescriptor yX4_held.desc).map (fun d => d.parameters.length) = some 1 := by decide +kernel
theorem hdSU_X4_held : yX4_held.name ≠ "<init>" ∧ (parseMethodDescriptor yX4_held.desc).map (fun d => d.parameters.length) = some 1 := by decide +kernel
theorem hdV_X4_howMany : yX4_howMany.cls = RX4 ∧ yX4_howMany.cls ≠ "java/lang/invoke/MethodHandle" ∧ yX4_howMany.cls ≠ "java/lang/invoke/VarHandle" ∧ (parseMethodDescriptor yX4_howMany.desc).map (fun d => d.parameters.length) = some 0 := by decide +kernel
theorem hdS_X4_howMany : yX4_howMany.cls ≠ "java/lang/invoke/MethodHandle" ∧ yX4_howMany.cls ≠ "java/lang/invoke/VarHandle" ∧ (parseMethodDescriptor yX4_howMany.desc).map (fun d => d.parameters.length) = some 0 := by decide +kernel
theorem hdSU_X4_howMany : yX4_howMany.name ≠ "<init>" ∧ (parseMethodDescriptor yX4_howMany.desc).map (fun d => d.parameters.length) = some 0 := by decide +kernel
theorem hdV_X4_is : yX4_is.cls = RX4 ∧ yX4_is.cls ≠ "java/lang/invoke/MethodHandle" ∧ yX4_is.cls ≠ "java/lang/invoke/VarHandle" ∧ (parseMethodDescriptor yX4_is.desc).map (fun d => d.parameters.length) = some 2 := by decide +kernel
theorem hdS_X4_is : yX4_is.cls ≠ "java/lang/invoke/MethodHandle" ∧ yX4_is.cls ≠ "java/lang/invoke/VarHandle" ∧ (parseMethodDescriptor yX4_is.desc).map (fun d => d.parameters.length) = some 2 := by decide +kernel
theorem hdSU_X4_is : yX4_is.name ≠ "<init>" ∧ (parseMethodDescriptor yX4_is.desc).map (fun d => d.parameters.length) = some 2 := by decide +kernel
theorem hdV_X4_kindOf : yX4_kindOf.cls = RX4 ∧ yX4_kindOf.cls ≠ "java/lang/invoke/MethodHandle" ∧ yX4_kindOf.cls ≠ "java/lang/invoke/VarHandle" ∧ (parseMethodDescriptor yX4_kindOf.desc).map (fun d => d.parameters.length) = some 1 := by decide +kernel
theorem hdS_X4_kindOf : yX4_kindOf.cls ≠ "java/lang/invoke/MethodHandle" ∧ yX4_kindOf.cls ≠ "java/lang/invoke/VarHandle" ∧ (parseMethodDescriptor yX4_kindOf.desc).map (fun d => d.parameters.length) = some 1 := by decide +kernel
theorem hdSU_X4_kindOf : yX4_kindOf.name ≠ "<init>" ∧ (parseMethodDescriptor yX4_kindOf.desc).map (fun d => d.parameters.length) = some 1 := by decide +kernel
theorem hdV_X4_lastsFor : yX4_lastsFor.cls = RX4 ∧ yX4_lastsFor.cls ≠ "java/lang/invoke/MethodHandle" ∧ yX4_lastsFor.cls ≠ "java/lang/invoke/VarHandle" ∧ (parseMethodDescriptor yX4_lastsFor.desc).map (fun d => d.parameters.length) = some 1 := by decide +kernel
theorem hdS_X4_lastsFor : yX4_lastsFor.cls ≠ "java/lang/invoke/MethodHandle" ∧ yX4_lastsFor.cls ≠ "java/lang/invoke/VarHandle" ∧ (parseMethodDescriptor yX4_lastsFor.desc).map (fun d => d.parameters.length) = some 1 := by decide +kernel
theorem hdSU_X4_lastsFor : yX4_lastsFor.name ≠ "<init>" ∧ (parseMethodDescriptor yX4_lastsFor.desc).map (fun d => d.parameters.length) = some 1 := by decide +kernel
theorem hdV_X4_leastAtZero : yX4_leastAtZero.cls = RX4 ∧ yX4_leastAtZero.cls ≠ "java/lang/invoke/MethodHandle" ∧ yX4_leastAtZero.cls ≠ "java/lang/invoke/VarHandle" ∧ (parseMethodDescriptor yX4_leastAtZero.desc).map (fun d => d.parameters.length) = some 0 := by decide +kernel
theorem hdS_X4_leastAtZero : yX4_leastAtZero.cls ≠ "java/lang/invoke/MethodHandle" ∧ yX4_leastAtZero.cls ≠ "java/lang/invoke/VarHandle" ∧ (parseMethodDescriptor yX4_leastAtZero.desc).map (fun d => d.parameters.length) = some 0 := by decide +kernel
theorem hdSU_X4_leastAtZero : yX4_leastAtZero.name ≠ "<init>" ∧ (parseMethodDescriptor yX4_leastAtZero.desc).map (fun d => d.parameters.length) = some 0 := by decide +kernel
theorem hdV_X4_lessen : yX4_lessen.cls = RX4 ∧ yX4_lessen.cls ≠ "java/lang/invoke/MethodHandle" ∧ yX4_lessen.cls ≠ "java/lang/invoke/VarHandle" ∧ (parseMethodDescriptor yX4_lessen.desc).map (fun d => d.parameters.length) = some 2 := by decide +kernel
theorem hdS_X4_lessen : yX4_lessen.cls ≠ "java/lang/invoke/MethodHandle" ∧ yX4_lessen.cls ≠ "java/lang/invoke/VarHandle" ∧ (parseMethodDescriptor yX4_lessen.desc).map (fun d => d.parameters.length) = some 2 := by decide +kernel
theorem hdSU_X4_lessen : yX4_lessen.name ≠ "<init>" ∧ (parseMethodDescriptor yX4_lessen.desc).map (fun d => d.parameters.length) = some 2 := by decide +kernel
theorem hdV_X4_pass : yX4_pass.cls = RX4 ∧ yX4_pass.cls ≠ "java/lang/invoke/MethodHandle" ∧ yX4_pass.cls ≠ "java/lang/invoke/VarHandle" ∧ (parseMethodDescriptor yX4_pass.desc).map (fun d => d.parameters.length) = some 1 := by decide +kernel
theorem hdS_X4_pass : yX4_pass.cls ≠ "java/lang/invoke/MethodHandle" ∧ yX4_pass.cls ≠ "java/lang/invoke/VarHandle" ∧ (parseMethodDescriptor yX4_pass.desc).map (fun d => d.parameters.length) = some 1 := by decide +kernel
theorem hdSU_X4_pass : yX4_pass.name ≠ "<init>" ∧ (parseMethodDescriptor yX4_pass.desc).map (fun d => d.parameters.length) = some 1 := by decide +kernel
theorem hdV_X4_passMinute : yX4_passMinute.cls = RX4 ∧ yX4_passMinute.cls ≠ "java/lang/invoke/MethodHandle" ∧ yX4_passMinute.cls ≠ "java/lang/invoke/VarHandle" ∧ (parseMethodDescriptor yX4_passMinute.desc).map (fun d => d.parameters.length) = some 0 := by decide +kernel
theorem hdS_X4_passMinute : yX4_passMinute.cls ≠ "java/lang/invoke/MethodHandle" ∧ yX4_passMinute.cls ≠ "java/lang/invoke/VarHandle" ∧ (parseMethodDescriptor yX4_passMinute.desc).map (fun d => d.parameters.length) = some 0 := by decide +kernel
theorem hdSU_X4_passMinute : yX4_passMinute.name ≠ "<init>" ∧ (parseMethodDescriptor yX4_passMinute.desc).map (fun d => d.parameters.length) = some 0 := by decide +kernel
theorem hdV_X4_pokeOne : yX4_pokeOne.cls = RX4 ∧ yX4_pokeOne.cls ≠ "java/lang/invoke/MethodHandle" ∧ yX4_pokeOne.cls ≠ "java/lang/invoke/VarHandle" ∧ (parseMethodDescriptor yX4_pokeOne.desc).map (fun d => d.parameters.length) = some 1 := by decide +kernel
theorem hdS_X4_pokeOne : yX4_pokeOne.cls ≠ "java/lang/invoke/MethodHandle" ∧ yX4_pokeOne.cls ≠ "java/lang/invoke/VarHandle" ∧ (parseMethodDescriptor yX4_pokeOne.desc).map (fun d => d.parameters.length) = some 1 := by decide +kernel
theorem hdSU_X4_pokeOne : yX4_pokeOne.name ≠ "<init>" ∧ (parseMethodDescriptor yX4_pokeOne.desc).map (fun d => d.parameters.length) = some 1 := by decide +kernel
theorem hdV_X4_settle : yX4_settle.cls = RX4 ∧ yX4_settle.cls ≠ "java/lang/invoke/MethodHandle" ∧ yX4_settle.cls ≠ "java/lang/invoke/VarHandle" ∧ (parseMethodDescriptor yX4_settle.desc).map (fun d => d.parameters.length) = some 0 := by decide +kernel
theorem hdS_X4_settle : yX4_settle.cls ≠ "java/lang/invoke/MethodHandle" ∧ yX4_settle.cls ≠ "java/lang/invoke/VarHandle" ∧ (parseMethodDescriptor yX4_settle.desc).map (fun d => d.parameters.length) = some 0 := by decide +kernel
theorem hdSU_X4_settle : yX4_settle.name ≠ "<init>" ∧ (parseMethodDescriptor yX4_settle.desc).map (fun d => d.parameters.length) = some 0 := by decide +kernel
theorem hdV_X4_spends : yX4_spends.cls = RX4 ∧ yX4_spends.cls ≠ "java/lang/invoke/MethodHandle" ∧ yX4_spends.cls ≠ "java/lang/invoke/VarHandle" ∧ (parseMethodDescriptor yX4_spends.desc).map (fun d => d.parameters.length) = some 1 := by decide +kernel
theorem hdS_X4_spends : yX4_spends.cls ≠ "java/lang/invoke/MethodHandle" ∧ yX4_spends.cls ≠ "java/lang/invoke/VarHandle" ∧ (parseMethodDescriptor yX4_spends.desc).map (fun d => d.parameters.length) = some 1 := by decide +kernel
theorem hdSU_X4_spends : yX4_spends.name ≠ "<init>" ∧ (parseMethodDescriptor yX4_spends.desc).map (fun d => d.parameters.length) = some 1 := by decide +kernel
theorem hdV_X4_stands : yX4_stands.cls = RX4 ∧ yX4_stands.cls ≠ "java/lang/invoke/MethodHandle" ∧ yX4_stands.cls ≠ "java/lang/invoke/VarHandle" ∧ (parseMethodDescriptor yX4_stands.desc).map (fun d => d.parameters.length) = some 1 := by decide +kernel
theorem hdS_X4_stands : yX4_stands.cls ≠ "java/lang/invoke/MethodHandle" ∧ yX4_stands.cls ≠ "java/lang/invoke/VarHandle" ∧ (parseMethodDescriptor yX4_stands.desc).map (fun d => d.parameters.length) = some 1 := by decide +kernel
theorem hdSU_X4_stands : yX4_stands.name ≠ "<init>" ∧ (parseMethodDescriptor yX4_stands.desc).map (fun d => d.parameters.length) = some 1 := by decide +kernel
theorem hdV_X4_stir : yX4_stir.cls = RX4 ∧ yX4_stir.cls ≠ "java/lang/invoke/MethodHandle" ∧ yX4_stir.cls ≠ "java/lang/invoke/VarHandle" ∧ (parseMethodDescriptor yX4_stir.desc).map (fun d => d.parameters.length) = some 1 := by decide +kernel
theorem hdS_X4_stir : yX4_stir.cls ≠ "java/lang/invoke/MethodHandle" ∧ yX4_stir.cls ≠ "java/lang/invoke/VarHandle" ∧ (parseMethodDescriptor yX4_stir.desc).map (fun d => d.parameters.length) = some 1 := by decide +kernel
theorem hdSU_X4_stir : yX4_stir.name ≠ "<init>" ∧ (parseMethodDescriptor yX4_stir.desc).map (fun d => d.parameters.length) = some 1 := by decide +kernel
theorem hdV_X4_whoIsAt : yX4_whoIsAt.cls = RX4 ∧ yX4_whoIsAt.cls ≠ "java/lang/invoke/MethodHandle" ∧ yX4_whoIsAt.cls ≠ "java/lang/invoke/VarHandle" ∧ (parseMethodDescriptor yX4_whoIsAt.desc).map (fun d => d.parameters.length) = some 1 := by decide +kernel
theorem hdS_X4_whoIsAt : yX4_whoIsAt.cls ≠ "java/lang/invoke/MethodHandle" ∧ yX4_whoIsAt.cls ≠ "java/lang/invoke/VarHandle" ∧ (parseMethodDescriptor yX4_whoIsAt.desc).map (fun d => d.parameters.length) = some 1 := by decide +kernel
theorem hdSU_X4_whoIsAt : yX4_whoIsAt.name ≠ "<init>" ∧ (parseMethodDescriptor yX4_whoIsAt.desc).map (fun d => d.parameters.length) = some 1 := by decide +kernel
theorem hdV_X5_copyFrom : yX5_copyFrom.cls = RX5 ∧ yX5_copyFrom.cls ≠ "java/lang/invoke/MethodHandle" ∧ yX5_copyFrom.cls ≠ "java/lang/invoke/VarHandle" ∧ (parseMethodDescriptor yX5_copyFrom.desc).map (fun d => d.parameters.length) = some 1 := by decide +kernel
theorem hdS_X5_copyFrom : yX5_copyFrom.cls ≠ "java/lang/invoke/MethodHandle" ∧ yX5_copyFrom.cls ≠ "java/lang/invoke/VarHandle" ∧ (parseMethodDescriptor yX5_copyFrom.desc).map (fun d => d.parameters.length) = some 1 := by decide +kernel
theorem hdSU_X5_copyFrom : yX5_copyFrom.name ≠ "<init>" ∧ (parseMethodDescriptor yX5_copyFrom.desc).map (fun d => d.parameters.length) = some 1 := by decide +kernel
theorem hdV_X5_draw : yX5_draw.cls = RX5 ∧ yX5_draw.cls ≠ "java/lang/invoke/MethodHandle" ∧ yX5_draw.cls ≠ "java/lang/invoke/VarHandle" ∧ (parseMethodDescriptor yX5_draw.desc).map (fun d => d.parameters.length) = some 0 := by decide +kernel
theorem hdS_X5_draw : yX5_draw.cls ≠ "java/lang/invoke/MethodHandle" ∧ yX5_draw.cls ≠ "java/lang/invoke/VarHandle" ∧ (parseMethodDescriptor yX5_draw.desc).map (fun d => d.parameters.length) = some 0 := by decide +kernel
theorem hdSU_X5_draw : yX5_draw.name ≠ "<init>" ∧ (parseMethodDescriptor yX5_draw.desc).map (fun d => d.parameters.length) = some 0 := by decide +kernel
theorem hdV_X5_lawOf : yX5_lawOf.cls = RX5 ∧ yX5_lawOf.cls ≠ "java/lang/invoke/MethodHandle" ∧ yX5_lawOf.cls ≠ "java/lang/invoke/VarHandle" ∧ (parseMethodDescriptor yX5_lawOf.desc).map (fun d => d.parameters.length) = some 1 := by decide +kernel
theorem hdS_X5_lawOf : yX5_lawOf.cls ≠ "java/lang/invoke/MethodHandle" ∧ yX5_lawOf.cls ≠ "java/lang/invoke/VarHandle" ∧ (parseMethodDescriptor yX5_lawOf.desc).map (fun d => d.parameters.length) = some 1 := by decide +kernel
theorem hdSU_X5_lawOf : yX5_lawOf.name ≠ "<init>" ∧ (parseMethodDescriptor yX5_lawOf.desc).map (fun d => d.parameters.length) = some 1 := by decide +kernel
theorem hdV_X6_begins : yX6_begins.cls = RX6 ∧ yX6_begins.cls ≠ "java/lang/invoke/MethodHandle" ∧ yX6_begins.cls ≠ "java/lang/invoke/VarHandle" ∧ (parseMethodDescriptor yX6_begins.desc).map (fun d => d.parameters.length) = some 1 := by decide +kernel
theorem hdS_X6_begins : yX6_begins.cls ≠ "java/lang/invoke/MethodHandle" ∧ yX6_begins.cls ≠ "java/lang/invoke/VarHandle" ∧ (parseMethodDescriptor yX6_begins.desc).map (fun d => d.parameters.length) = some 1 := by decide +kernel
theorem hdSU_X6_begins : yX6_begins.name ≠ "<init>" ∧ (parseMethodDescriptor yX6_begins.desc).map (fun d => d.parameters.length) = some 1 := by decide +kernel
theorem hdV_X6_keep : yX6_keep.cls = RX6 ∧ yX6_keep.cls ≠ "java/lang/invoke/MethodHandle" ∧ yX6_keep.cls ≠ "java/lang/invoke/VarHandle" ∧ (parseMethodDescriptor yX6_keep.desc).map (fun d => d.parameters.length) = some 0 := by decide +kernel
theorem hdS_X6_keep : yX6_keep.cls ≠ "java/lang/invoke/MethodHandle" ∧ yX6_keep.cls ≠ "java/lang/invoke/VarHandle" ∧ (parseMethodDescriptor yX6_keep.desc).map (fun d => d.parameters.length) = some 0 := by decide +kernel
theorem hdSU_X6_keep : yX6_keep.name ≠ "<init>" ∧ (parseMethodDescriptor yX6_keep.desc).map (fun d => d.parameters.length) = some 0 := by decide +kernel
theorem hdV_X6_starts : yX6_starts.cls = RX6 ∧ yX6_starts.cls ≠ "java/lang/invoke/MethodHandle" ∧ yX6_starts.cls ≠ "java/lang/invoke/VarHandle" ∧ (parseMethodDescriptor yX6_starts.desc).map (fun d => d.parameters.length) = some 2 := by decide +kernel
theorem hdS_X6_starts : yX6_starts.cls ≠ "java/lang/invoke/MethodHandle" ∧ yX6_starts.cls ≠ "java/lang/invoke/VarHandle" ∧ (parseMethodDescriptor yX6_starts.desc).map (fun d => d.parameters.length) = some 2 := by decide +kernel
theorem hdSU_X6_starts : yX6_starts.name ≠ "<init>" ∧ (parseMethodDescriptor yX6_starts.desc).map (fun d => d.parameters.length) = some 2 := by decide +kernel
theorem hdV_X7_biting : yX7_biting.cls = RX7 ∧ yX7_biting.cls ≠ "java/lang/invoke/MethodHandle" ∧ yX7_biting.cls ≠ "java/lang/invoke/VarHandle" ∧ (parseMethodDescriptor yX7_biting.desc).map (fun d => d.parameters.length) = some 1 := by decide +kernel
theorem hdS_X7_biting : yX7_biting.cls ≠ "java/lang/invoke/MethodHandle" ∧ yX7_biting.cls ≠ "java/lang/invoke/VarHandle" ∧ (parseMethodDescriptor yX7_biting.desc).map (fun d => d.parameters.length) = some 1 := by decide +kernel
theorem hdSU_X7_biting : yX7_biting.name ≠ "<init>" ∧ (parseMethodDescriptor yX7_biting.desc).map (fun d => d.parameters.length) = some 1 := by decide +kernel
theorem hdV_X7_holds : yX7_holds.cls = RX7 ∧ yX7_holds.cls ≠ "java/lang/invoke/MethodHandle" ∧ yX7_holds.cls ≠ "java/lang/invoke/VarHandle" ∧ (parseMethodDescriptor yX7_holds.desc).map (fun d => d.parameters.length) = some 2 := by decide +kernel
theorem hdS_X7_holds : yX7_holds.cls ≠ "java/lang/invoke/MethodHandle" ∧ yX7_holds.cls ≠ "java/lang/invoke/VarHandle" ∧ (parseMethodDescriptor yX7_holds.desc).map (fun d => d.parameters.length) = some 2 := by decide +kernel
theorem hdSU_X7_holds : yX7_holds.name ≠ "<init>" ∧ (parseMethodDescriptor yX7_holds.desc).map (fun d => d.parameters.length) = some 2 := by decide +kernel
theorem hdV_X7_leans : yX7_leans.cls = RX7 ∧ yX7_leans.cls ≠ "java/lang/invoke/MethodHandle" ∧ yX7_leans.cls ≠ "java/lang/invoke/VarHandle" ∧ (parseMethodDescriptor yX7_leans.desc).map (fun d => d.parameters.length) = some 2 := by decide +kernel
theorem hdS_X7_leans : yX7_leans.cls ≠ "java/lang/invoke/MethodHandle" ∧ yX7_leans.cls ≠ "java/lang/invoke/VarHandle" ∧ (parseMethodDescriptor yX7_leans.desc).map (fun d => d.parameters.length) = some 2 := by decide +kernel
theorem hdSU_X7_leans : yX7_leans.name ≠ "<init>" ∧ (parseMethodDescriptor yX7_leans.desc).map (fun d => d.parameters.length) = some 2 := by decide +kernel
theorem hdV_X7_parts : yX7_parts.cls = RX7 ∧ yX7_parts.cls ≠ "java/lang/invoke/MethodHandle" ∧ yX7_parts.cls ≠ "java/lang/invoke/VarHandle" ∧ (parseMethodDescriptor yX7_parts.desc).map (fun d => d.parameters.length) = some 2 := by decide +kernel
theorem hdS_X7_parts : yX7_parts.cls ≠ "java/lang/invoke/MethodHandle" ∧ yX7_parts.cls ≠ "java/lang/invoke/VarHandle" ∧ (parseMethodDescriptor yX7_parts.desc).map (fun d => d.parameters.length) = some 2 := by decide +kernel
theorem hdSU_X7_parts : yX7_parts.name ≠ "<init>" ∧ (parseMethodDescriptor yX7_parts.desc).map (fun d => d.parameters.length) = some 2 := by decide +kernel
theorem hdV_X7_spending : yX7_spending.cls = RX7 ∧ yX7_spending.cls ≠ "java/lang/invoke/MethodHandle" ∧ yX7_spending.cls ≠ "java/lang/invoke/VarHandle" ∧ (parseMethodDescriptor yX7_spending.desc).map (fun d => d.parameters.length) = some 2 := by decide +kernel
theorem hdS_X7_spending : yX7_spending.cls ≠ "java/lang/invoke/MethodHandle" ∧ yX7_spending.cls ≠ "java/lang/invoke/VarHandle" ∧ (parseMethodDescriptor yX7_spending.desc).map (fun d => d.parameters.length) = some 2 := by decide +kernel
theorem hdSU_X7_spending : yX7_spending.name ≠ "<init>" ∧ (parseMethodDescriptor yX7_spending.desc).map (fun d => d.parameters.length) = some 2 := by decide +kernel
theorem hdV_X7_sways : yX7_sways.cls = RX7 ∧ yX7_sways.cls ≠ "java/lang/invoke/MethodHandle" ∧ yX7_sways.cls ≠ "java/lang/invoke/VarHandle" ∧ (parseMethodDescriptor yX7_sways.desc).map (fun d => d.parameters.length) = some 2 := by decide +kernel
theorem hdS_X7_sways : yX7_sways.cls ≠ "java/lang/invoke/MethodHandle" ∧ yX7_sways.cls ≠ "java/lang/invoke/VarHandle" ∧ (parseMethodDescriptor yX7_sways.desc).map (fun d => d.parameters.length) = some 2 := by decide +kernel
theorem hdSU_X7_sways : yX7_sways.name ≠ "<init>" ∧ (parseMethodDescriptor yX7_sways.desc).map (fun d => d.parameters.length) = some 2 := by decide +kernel
theorem hdV_X8_biting : yX8_biting.cls = RX8 ∧ yX8_biting.cls ≠ "java/lang/invoke/MethodHandle" ∧ yX8_biting.cls ≠ "java/lang/invoke/VarHandle" ∧ (parseMethodDescriptor yX8_biting.desc).map (fun d => d.parameters.length) = some 1 := by decide +kernel
theorem hdS_X8_biting : yX8_biting.cls ≠ "java/lang/invoke/MethodHandle" ∧ yX8_biting.cls ≠ "java/lang/invoke/VarHandle" ∧ (parseMethodDescriptor yX8_biting.desc).map (fun d => d.parameters.length) = some 1 := by decide +kernel
theorem hdSU_X8_biting : yX8_biting.name ≠ "<init>" ∧ (parseMethodDescriptor yX8_biting.desc).map (fun d => d.parameters.length) = some 1 := by decide +kernel
theorem hdV_X8_sways : yX8_sways.cls = RX8 ∧ yX8_sways.cls ≠ "java/lang/invoke/MethodHandle" ∧ yX8_sways.cls ≠ "java/lang/invoke/VarHandle" ∧ (parseMethodDescriptor yX8_sways.desc).map (fun d => d.parameters.length) = some 2 := by decide +kernel
theorem hdS_X8_sways : yX8_sways.cls ≠ "java/lang/invoke/MethodHandle" ∧ yX8_sways.cls ≠ "java/lang/invoke/VarHandle" ∧ (parseMethodDescriptor yX8_sways.desc).map (fun d => d.parameters.length) = some 2 := by decide +kernel
theorem hdSU_X8_sways : yX8_sways.name ≠ "<init>" ∧ (parseMethodDescriptor yX8_sways.desc).map (fun d => d.parameters.length) = some 2 := by decide +kernel
theorem hdV_X9_holds : yX9_holds.cls = RX9 ∧ yX9_holds.cls ≠ "java/lang/invoke/MethodHandle" ∧ yX9_holds.cls ≠ "java/lang/invoke/VarHandle" ∧ (parseMethodDescriptor yX9_holds.desc).map (fun d => d.parameters.length) = some 2 := by decide +kernel
theorem hdS_X9_holds : yX9_holds.cls ≠ "java/lang/invoke/MethodHandle" ∧ yX9_holds.cls ≠ "java/lang/invoke/VarHandle" ∧ (parseMethodDescriptor yX9_holds.desc).map (fun d => d.parameters.length) = some 2 := by decide +kernel
theorem hdSU_X9_holds : yX9_holds.name ≠ "<init>" ∧ (parseMethodDescriptor yX9_holds.desc).map (fun d => d.parameters.length) = some 2 := by decide +kernel
theorem hdV_X9_leans : yX9_leans.cls = RX9 ∧ yX9_leans.cls ≠ "java/lang/invoke/MethodHandle" ∧ yX9_leans.cls ≠ "java/lang/invoke/VarHandle" ∧ (parseMethodDescriptor yX9_leans.desc).map (fun d => d.parameters.length) = some 2 := by decide +kernel
theorem hdS_X9_leans : yX9_leans.cls ≠ "java/lang/invoke/MethodHandle" ∧ yX9_leans.cls ≠ "java/lang/invoke/VarHandle" ∧ (parseMethodDescriptor yX9_leans.desc).map (fun d => d.parameters.length) = some 2 := by decide +kernel
theorem hdSU_X9_leans : yX9_leans.name ≠ "<init>" ∧ (parseMethodDescriptor yX9_leans.desc).map (fun d => d.parameters.length) = some 2 := by decide +kernel
theorem hdV_X9_spending : yX9_spending.cls = RX9 ∧ yX9_spending.cls ≠ "java/lang/invoke/MethodHandle" ∧ yX9_spending.cls ≠ "java/lang/invoke/VarHandle" ∧ (parseMethodDescriptor yX9_spending.desc).map (fun d => d.parameters.length) = some 2 := by decide +kernel
theorem hdS_X9_spending : yX9_spending.cls ≠ "java/lang/invoke/MethodHandle" ∧ yX9_spending.cls ≠ "java/lang/invoke/VarHandle" ∧ (parseMethodDescriptor yX9_spending.desc).map (fun d => d.parameters.length) = some 2 := by decide +kernel
theorem hdSU_X9_spending : yX9_spending.name ≠ "<init>" ∧ (parseMethodDescriptor yX9_spending.desc).map (fun d => d.parameters.length) = some 2 := by decide +kernel
theorem hdV_X10_biting : yX10_biting.cls = RX10 ∧ yX10_biting.cls ≠ "java/lang/invoke/MethodHandle" ∧ yX10_biting.cls ≠ "java/lang/invoke/VarHandle" ∧ (parseMethodDescriptor yX10_biting.desc).map (fun d => d.parameters.length) = some 1 := by decide +kernel
theorem hdS_X10_biting : yX10_biting.cls ≠ "java/lang/invoke/MethodHandle" ∧ yX10_biting.cls ≠ "java/lang/invoke/VarHandle" ∧ (parseMethodDescriptor yX10_biting.desc).map (fun d => d.parameters.length) = some 1 := by decide +kernel
theorem hdSU_X10_biting : yX10_biting.name ≠ "<init>" ∧ (parseMethodDescriptor yX10_biting.desc).map (fun d => d.parameters.length) = some 1 := by decide +kernel
theorem hdV_X10_leans : yX10_leans.cls = RX10 ∧ yX10_leans.cls ≠ "java/lang/invoke/MethodHandle" ∧ yX10_leans.cls ≠ "java/lang/invoke/VarHandle" ∧ (parseMethodDescriptor yX10_leans.desc).map (fun d => d.parameters.length) = some 2 := by decide +kernel
theorem hdS_X10_leans : yX10_leans.cls ≠ "java/lang/invoke/MethodHandle" ∧ yX10_leans.cls ≠ "java/lang/invoke/VarHandle" ∧ (parseMethodDescriptor yX10_leans.desc).map (fun d => d.parameters.length) = some 2 := by decide +kernel
theorem hdSU_X10_leans : yX10_leans.name ≠ "<init>" ∧ (parseMethodDescriptor yX10_leans.desc).map (fun d => d.parameters.length) = some 2 := by decide +kernel
theorem hdV_X12_above : yX12_above.cls = RX12 ∧ yX12_above.cls ≠ "java/lang/invoke/MethodHandle" ∧ yX12_above.cls ≠ "java/lang/invoke/VarHandle" ∧ (parseMethodDescriptor yX12_above.desc).map (fun d => d.parameters.length) = some 1 := by decide +kernel
theorem hdS_X12_above : yX12_above.cls ≠ "java/lang/invoke/MethodHandle" ∧ yX12_above.cls ≠ "java/lang/invoke/VarHandle" ∧ (parseMethodDescriptor yX12_above.desc).map (fun d => d.parameters.length) = some 1 := by decide +kernel
theorem hdV_X12_again : yX12_again.cls = RX12 ∧ yX12_again.cls ≠ "java/lang/invoke/MethodHandle" ∧ yX12_again.cls ≠ "java/lang/invoke/VarHandle" ∧ (parseMethodDescriptor yX12_again.desc).map (fun d => d.parameters.length) = some 2 := by decide +kernel
theorem hdS_X12_again : yX12_again.cls ≠ "java/lang/invoke/MethodHandle" ∧ yX12_again.cls ≠ "java/lang/invoke/VarHandle" ∧ (parseMethodDescriptor yX12_again.desc).map (fun d => d.parameters.length) = some 2 := by decide +kernel
theorem hdV_X12_as : yX12_as.cls = RX12 ∧ yX12_as.cls ≠ "java/lang/invoke/MethodHandle" ∧ yX12_as.cls ≠ "java/lang/invoke/VarHandle" ∧ (parseMethodDescriptor yX12_as.desc).map (fun d => d.parameters.length) = some 2 := by decide +kernel
theorem hdS_X12_as : yX12_as.cls ≠ "java/lang/invoke/MethodHandle" ∧ yX12_as.cls ≠ "java/lang/invoke/VarHandle" ∧ (parseMethodDescriptor yX12_as.desc).map (fun d => d.parameters.length) = some 2 := by decide +kernel
theorem hdV_X12_at : yX12_at.cls = RX12 ∧ yX12_at.cls ≠ "java/lang/invoke/MethodHandle" ∧ yX12_at.cls ≠ "java/lang/invoke/VarHandle" ∧ (parseMethodDescriptor yX12_at.desc).map (fun d => d.parameters.length) = some 1 := by decide +kernel
theorem hdS_X12_at : yX12_at.cls ≠ "java/lang/invoke/MethodHandle" ∧ yX12_at.cls ≠ "java/lang/invoke/VarHandle" ∧ (parseMethodDescriptor yX12_at.desc).map (fun d => d.parameters.length) = some 1 := by decide +kernel
theorem hdV_X12_begins : yX12_begins.cls = RX12 ∧ yX12_begins.cls ≠ "java/lang/invoke/MethodHandle" ∧ yX12_begins.cls ≠ "java/lang/invoke/VarHandle" ∧ (parseMethodDescriptor yX12_begins.desc).map (fun d => d.parameters.length) = some 1 := by decide +kernel
theorem hdS_X12_begins : yX12_begins.cls ≠ "java/lang/invoke/MethodHandle" ∧ yX12_begins.cls ≠ "java/lang/invoke/VarHandle" ∧ (parseMethodDescriptor yX12_begins.desc).map (fun d => d.parameters.length) = some 1 := by decide +kernel
theorem hdV_X12_bite : yX12_bite.cls = RX12 ∧ yX12_bite.cls ≠ "java/lang/invoke/MethodHandle" ∧ yX12_bite.cls ≠ "java/lang/invoke/VarHandle" ∧ (parseMethodDescriptor yX12_bite.desc).map (fun d => d.parameters.length) = some 1 := by decide +kernel
theorem hdS_X12_bite : yX12_bite.cls ≠ "java/lang/invoke/MethodHandle" ∧ yX12_bite.cls ≠ "java/lang/invoke/VarHandle" ∧ (parseMethodDescriptor yX12_bite.desc).map (fun d => d.parameters.length) = some 1 := by decide +kernel
theorem hdV_X12_bitsOf : yX12_bitsOf.cls = RX12 ∧ yX12_bitsOf.cls ≠ "java/lang/invoke/MethodHandle" ∧ yX12_bitsOf.cls ≠ "java/lang/invoke/VarHandle" ∧ (parseMethodDescriptor yX12_bitsOf.desc).map (fun d => d.parameters.length) = some 1 := by decide +kernel
theorem hdS_X12_bitsOf : yX12_bitsOf.cls ≠ "java/lang/invoke/MethodHandle" ∧ yX12_bitsOf.cls ≠ "java/lang/invoke/VarHandle" ∧ (parseMethodDescriptor yX12_bitsOf.desc).map (fun d => d.parameters.length) = some 1 := by decide +kernel
theorem hdV_X12_body : yX12_body.cls = RX12 ∧ yX12_body.cls ≠ "java/lang/invoke/MethodHandle" ∧ yX12_body.cls ≠ "java/lang/invoke/VarHandle" ∧ (parseMethodDescriptor yX12_body.desc).map (fun d => d.parameters.length) = some 1 := by decide +kernel
theorem hdS_X12_body : yX12_body.cls ≠ "java/lang/invoke/MethodHandle" ∧ yX12_body.cls ≠ "java/lang/invoke/VarHandle" ∧ (parseMethodDescriptor yX12_body.desc).map (fun d => d.parameters.length) = some 1 := by decide +kernel
theorem hdV_X12_both : yX12_both.cls = RX12 ∧ yX12_both.cls ≠ "java/lang/invoke/MethodHandle" ∧ yX12_both.cls ≠ "java/lang/invoke/VarHandle" ∧ (parseMethodDescriptor yX12_both.desc).map (fun d => d.parameters.length) = some 0 := by decide +kernel
theorem hdS_X12_both : yX12_both.cls ≠ "java/lang/invoke/MethodHandle" ∧ yX12_both.cls ≠ "java/lang/invoke/VarHandle" ∧ (parseMethodDescriptor yX12_both.desc).map (fun d => d.parameters.length) = some 0 := by decide +kernel
theorem hdV_X12_carry : yX12_carry.cls = RX12 ∧ yX12_carry.cls ≠ "java/lang/invoke/MethodHandle" ∧ yX12_carry.cls ≠ "java/lang/invoke/VarHandle" ∧ (parseMethodDescriptor yX12_carry.desc).map (fun d => d.parameters.length) = some 2 := by decide +kernel
theorem hdS_X12_carry : yX12_carry.cls ≠ "java/lang/invoke/MethodHandle" ∧ yX12_carry.cls ≠ "java/lang/invoke/VarHandle" ∧ (parseMethodDescriptor yX12_carry.desc).map (fun d => d.parameters.length) = some 2 := by decide +kernel
theorem hdV_X12_change : yX12_change.cls = RX12 ∧ yX12_change.cls ≠ "java/lang/invoke/MethodHandle" ∧ yX12_change.cls ≠ "java/lang/invoke/VarHandle" ∧ (parseMethodDescriptor yX12_change.desc).map (fun d => d.parameters.length) = some 2 := by decide +kernel
theorem hdS_X12_change : yX12_change.cls ≠ "java/lang/invoke/MethodHandle" ∧ yX12_change.cls ≠ "java/lang/invoke/VarHandle" ∧ (parseMethodDescriptor yX12_change.desc).map (fun d => d.parameters.length) = some 2 := by decide +kernel
theorem hdV_X12_change1 : yX12_change1.cls = RX12 ∧ yX12_change1.cls ≠ "java/lang/invoke/MethodHandle" ∧ yX12_change1.cls ≠ "java/lang/invoke/VarHandle" ∧ (parseMethodDescriptor yX12_change1.desc).map (fun d => d.parameters.length) = some 2 := by decide +kernel
theorem hdS_X12_change1 : yX12_change1.cls ≠ "java/lang/invoke/MethodHandle" ∧ yX12_change1.cls ≠ "java/lang/invoke/VarHandle" ∧ (parseMethodDescriptor yX12_change1.desc).map (fun d => d.parameters.length) = some 2 := by decide +kernel
theorem hdV_X12_check : yX12_check.cls = RX12 ∧ yX12_check.cls ≠ "java/lang/invoke/MethodHandle" ∧ yX12_check.cls ≠ "java/lang/invoke/VarHandle" ∧ (parseMethodDescriptor yX12_check.desc).map (fun d => d.parameters.length) = some 0 := by decide +kernel
theorem hdS_X12_check : yX12_check.cls ≠ "java/lang/invoke/MethodHandle" ∧ yX12_check.cls ≠ "java/lang/invoke/VarHandle" ∧ (parseMethodDescriptor yX12_check.desc).map (fun d => d.parameters.length) = some 0 := by decide +kernel
theorem hdV_X12_compared : yX12_compared.cls = RX12 ∧ yX12_compared.cls ≠ "java/lang/invoke/MethodHandle" ∧ yX12_compared.cls ≠ "java/lang/invoke/VarHandle" ∧ (parseMethodDescriptor yX12_compared.desc).map (fun d => d.parameters.length) = some 0 := by decide +kernel
theorem hdS_X12_compared : yX12_compared.cls ≠ "java/lang/invoke/MethodHandle" ∧ yX12_compared.cls ≠ "java/lang/invoke/VarHandle" ∧ (parseMethodDescriptor yX12_compared.desc).map (fun d => d.parameters.length) = some 0 := by decide +kernel
theorem hdV_X12_count : yX12_count.cls = RX12 ∧ yX12_count.cls ≠ "java/lang/invoke/MethodHandle" ∧ yX12_count.cls ≠ "java/lang/invoke/VarHandle" ∧ (parseMethodDescriptor yX12_count.desc).map (fun d => d.parameters.length) = some 1 := by decide +kernel
theorem hdS_X12_count : yX12_count.cls ≠ "java/lang/invoke/MethodHandle" ∧ yX12_count.cls ≠ "java/lang/invoke/VarHandle" ∧ (parseMethodDescriptor yX12_count.desc).map (fun d => d.parameters.length) = some 1 := by decide +kernel
theorem hdV_X12_divisor : yX12_divisor.cls = RX12 ∧ yX12_divisor.cls ≠ "java/lang/invoke/MethodHandle" ∧ yX12_divisor.cls ≠ "java/lang/invoke/VarHandle" ∧ (parseMethodDescriptor yX12_divisor.desc).map (fun d => d.parameters.length) = some 2 := by decide +kernel
theorem hdS_X12_divisor : yX12_divisor.cls ≠ "java/lang/invoke/MethodHandle" ∧ yX12_divisor.cls ≠ "java/lang/invoke/VarHandle" ∧ (parseMethodDescriptor yX12_divisor.desc).map (fun d => d.parameters.length) = some 2 := by decide +kernel
theorem hdV_X12_draw : yX12_draw.cls = RX12 ∧ yX12_draw.cls ≠ "java/lang/invoke/MethodHandle" ∧ yX12_draw.cls ≠ "java/lang/invoke/VarHandle" ∧ (parseMethodDescriptor yX12_draw.desc).map (fun d => d.parameters.length) = some 0 := by decide +kernel
theorem hdS_X12_draw : yX12_draw.cls ≠ "java/lang/invoke/MethodHandle" ∧ yX12_draw.cls ≠ "java/lang/invoke/VarHandle" ∧ (parseMethodDescriptor yX12_draw.desc).map (fun d => d.parameters.length) = some 0 := by decide +kernel
theorem hdV_X12_draws : yX12_draws.cls = RX12 ∧ yX12_draws.cls ≠ "java/lang/invoke/MethodHandle" ∧ yX12_draws.cls ≠ "java/lang/invoke/VarHandle" ∧ (parseMethodDescriptor yX12_draws.desc).map (fun d => d.parameters.length) = some 1 := by decide +kernel
theorem hdS_X12_draws : yX12_draws.cls ≠ "java/lang/invoke/MethodHandle" ∧ yX12_draws.cls ≠ "java/lang/invoke/VarHandle" ∧ (parseMethodDescriptor yX12_draws.desc).map (fun d => d.parameters.length) = some 1 := by decide +kernel
theorem hdV_X12_empties : yX12_empties.cls = RX12 ∧ yX12_empties.cls ≠ "java/lang/invoke/MethodHandle" ∧ yX12_empties.cls ≠ "java/lang/invoke/VarHandle" ∧ (parseMethodDescriptor yX12_empties.desc).map (fun d => d.parameters.length) = some 1 := by decide +kernel
theorem hdS_X12_empties : yX12_empties.cls ≠ "java/lang/invoke/MethodHandle" ∧ yX12_empties.cls ≠ "java/lang/invoke/VarHandle" ∧ (parseMethodDescriptor yX12_empties.desc).map (fun d => d.parameters.length) = some 1 := by decide +kernel
theorem hdV_X12_error : yX12_error.cls = RX12 ∧ yX12_error.cls ≠ "java/lang/invoke/MethodHandle" ∧ yX12_error.cls ≠ "java/lang/invoke/VarHandle" ∧ (parseMethodDescriptor yX12_error.desc).map (fun d => d.parameters.length) = some 1 := by decide +kernel
theorem hdS_X12_error : yX12_error.cls ≠ "java/lang/invoke/MethodHandle" ∧ yX12_error.cls ≠ "java/lang/invoke/VarHandle" ∧ (parseMethodDescriptor yX12_error.desc).map (fun d => d.parameters.length) = some 1 := by decide +kernel
theorem hdV_X12_feed : yX12_feed.cls = RX12 ∧ yX12_feed.cls ≠ "java/lang/invoke/MethodHandle" ∧ yX12_feed.cls ≠ "java/lang/invoke/VarHandle" ∧ (parseMethodDescriptor yX12_feed.desc).map (fun d => d.parameters.length) = some 2 := by decide +kernel
theorem hdS_X12_feed : yX12_feed.cls ≠ "java/lang/invoke/MethodHandle" ∧ yX12_feed.cls ≠ "java/lang/invoke/VarHandle" ∧ (parseMethodDescriptor yX12_feed.desc).map (fun d => d.parameters.length) = some 2 := by decide +kernel
theorem hdV_X12_flies : yX12_flies.cls = RX12 ∧ yX12_flies.cls ≠ "java/lang/invoke/MethodHandle" ∧ yX12_flies.cls ≠ "java/lang/invoke/VarHandle" ∧ (parseMethodDescriptor yX12_flies.desc).map (fun d => d.parameters.length) = some 1 := by decide +kernel
theorem hdS_X12_flies : yX12_flies.cls ≠ "java/lang/invoke/MethodHandle" ∧ yX12_flies.cls ≠ "java/lang/invoke/VarHandle" ∧ (parseMethodDescriptor yX12_flies.desc).map (fun d => d.parameters.length) = some 1 := by decide +kernel
theorem hdV_X12_fly : yX12_fly.cls = RX12 ∧ yX12_fly.cls ≠ "java/lang/invoke/MethodHandle" ∧ yX12_fly.cls ≠ "java/lang/invoke/VarHandle" ∧ (parseMethodDescriptor yX12_fly.desc).map (fun d => d.parameters.length) = some 1 := by decide +kernel
theorem hdS_X12_fly : yX12_fly.cls ≠ "java/lang/invoke/MethodHandle" ∧ yX12_fly.cls ≠ "java/lang/invoke/VarHandle" ∧ (parseMethodDescriptor yX12_fly.desc).map (fun d => d.parameters.length) = some 1 := by decide +kernel
theorem hdV_X12_flyAt : yX12_flyAt.cls = RX12 ∧ yX12_flyAt.cls ≠ "java/lang/invoke/MethodHandle" ∧ yX12_flyAt.cls ≠ "java/lang/invoke/VarHandle" ∧ (parseMethodDescriptor yX12_flyAt.desc).map (fun d => d.parameters.length) = some 1 := by decide +kernel
theorem hdS_X12_flyAt : yX12_flyAt.cls ≠ "java/lang/invoke/MethodHandle" ∧ yX12_flyAt.cls ≠ "java/lang/invoke/VarHandle" ∧ (parseMethodDescriptor yX12_flyAt.desc).map (fun d => d.parameters.length) = some 1 := by decide +kernel
theorem hdV_X12_go : yX12_go.cls = RX12 ∧ yX12_go.cls ≠ "java/lang/invoke/MethodHandle" ∧ yX12_go.cls ≠ "java/lang/invoke/VarHandle" ∧ (parseMethodDescriptor yX12_go.desc).map (fun d => d.parameters.length) = some 1 := by decide +kernel
theorem hdS_X12_go : yX12_go.cls ≠ "java/lang/invoke/MethodHandle" ∧ yX12_go.cls ≠ "java/lang/invoke/VarHandle" ∧ (parseMethodDescriptor yX12_go.desc).map (fun d => d.parameters.length) = some 1 := by decide +kernel
theorem hdV_X12_hasText : yX12_hasText.cls = RX12 ∧ yX12_hasText.cls ≠ "java/lang/invoke/MethodHandle" ∧ yX12_hasText.cls ≠ "java/lang/invoke/VarHandle" ∧ (parseMethodDescriptor yX12_hasText.desc).map (fun d => d.parameters.length) = some 1 := by decide +kernel
theorem hdS_X12_hasText : yX12_hasText.cls ≠ "java/lang/invoke/MethodHandle" ∧ yX12_hasText.cls ≠ "java/lang/invoke/VarHandle" ∧ (parseMethodDescriptor yX12_hasText.desc).map (fun d => d.parameters.length) = some 1 := by decide +kernel
theorem hdV_X12_held : yX12_held.cls = RX12 ∧ yX12_held.cls ≠ "java/lang/invoke/MethodHandle" ∧ yX12_held.cls ≠ "java/lang/invoke/VarHandle" ∧ (parseMethodDescriptor yX12_held.desc).map (fun d => d.parameters.length) = some 3 := by decide +kernel
theorem hdS_X12_held : yX12_held.cls ≠ "java/lang/invoke/MethodHandle" ∧ yX12_held.cls ≠ "java/lang/invoke/VarHandle" ∧ (parseMethodDescriptor yX12_held.desc).map (fun d => d.parameters.length) = some 3 := by decide +kernel
theorem hdV_X12_holdsAs : yX12_holdsAs.cls = RX12 ∧ yX12_holdsAs.cls ≠ "java/lang/invoke/MethodHandle" ∧ yX12_holdsAs.cls ≠ "java/lang/invoke/VarHandle" ∧ (parseMethodDescriptor yX12_holdsAs.desc).map (fun d => d.parameters.length) = some 2 := by decide +kernel
theorem hdS_X12_holdsAs : yX12_holdsAs.cls ≠ "java/lang/invoke/MethodHandle" ∧ yX12_holdsAs.cls ≠ "java/lang/invoke/VarHandle" ∧ (parseMethodDescriptor yX12_holdsAs.desc).map (fun d => d.parameters.length) = some 2 := by decide +kernel
theorem hdV_X12_howMany : yX12_howMany.cls = RX12 ∧ yX12_howMany.cls ≠ "java/lang/invoke/MethodHandle" ∧ yX12_howMany.cls ≠ "java/lang/invoke/VarHandle" ∧ (parseMethodDescriptor yX12_howMany.desc).map (fun d => d.parameters.length) = some 0 := by decide +kernel
theorem hdS_X12_howMany : yX12_howMany.cls ≠ "java/lang/invoke/MethodHandle" ∧ yX12_howMany.cls ≠ "java/lang/invoke/VarHandle" ∧ (parseMethodDescriptor yX12_howMany.desc).map (fun d => d.parameters.length) = some 0 := by decide +kernel
theorem hdV_X12_image : yX12_image.cls = RX12 ∧ yX12_image.cls ≠ "java/lang/invoke/MethodHandle" ∧ yX12_image.cls ≠ "java/lang/invoke/VarHandle" ∧ (parseMethodDescriptor yX12_image.desc).map (fun d => d.parameters.length) = some 0 := by decide +kernel
theorem hdS_X12_image : yX12_image.cls ≠ "java/lang/invoke/MethodHandle" ∧ yX12_image.cls ≠ "java/lang/invoke/VarHandle" ∧ (parseMethodDescriptor yX12_image.desc).map (fun d => d.parameters.length) = some 0 := by decide +kernel
theorem hdV_X12_in : yX12_in.cls = RX12 ∧ yX12_in.cls ≠ "java/lang/invoke/MethodHandle" ∧ yX12_in.cls ≠ "java/lang/invoke/VarHandle" ∧ (parseMethodDescriptor yX12_in.desc).map (fun d => d.parameters.length) = some 3 := by decide +kernel
theorem hdS_X12_in : yX12_in.cls ≠ "java/lang/invoke/MethodHandle" ∧ yX12_in.cls ≠ "java/lang/invoke/VarHandle" ∧ (parseMethodDescriptor yX12_in.desc).map (fun d => d.parameters.length) = some 3 := by decide +kernel
theorem hdV_X12_isName : yX12_isName.cls = RX12 ∧ yX12_isName.cls ≠ "java/lang/invoke/MethodHandle" ∧ yX12_isName.cls ≠ "java/lang/invoke/VarHandle" ∧ (parseMethodDescriptor yX12_isName.desc).map (fun d => d.parameters.length) = some 1 := by decide +kernel
theorem hdS_X12_isName : yX12_isName.cls ≠ "java/lang/invoke/MethodHandle" ∧ yX12_isName.cls ≠ "java/lang/invoke/VarHandle" ∧ (parseMethodDescriptor yX12_isName.desc).map (fun d => d.parameters.length) = some 1 := by decide +kernel
theorem hdV_X12_isOne : yX12_isOne.cls = RX12 ∧ yX12_isOne.cls ≠ "java/lang/invoke/MethodHandle" ∧ yX12_isOne.cls ≠ "java/lang/invoke/VarHandle" ∧ (parseMethodDescriptor yX12_isOne.desc).map (fun d => d.parameters.length) = some 1 := by decide +kernel
theorem hdS_X12_isOne : yX12_isOne.cls ≠ "java/lang/invoke/MethodHandle" ∧ yX12_isOne.cls ≠ "java/lang/invoke/VarHandle" ∧ (parseMethodDescriptor yX12_isOne.desc).map (fun d => d.parameters.length) = some 1 := by decide +kernel
theorem hdV_X12_isSheet : yX12_isSheet.cls = RX12 ∧ yX12_isSheet.cls ≠ "java/lang/invoke/MethodHandle" ∧ yX12_isSheet.cls ≠ "java/lang/invoke/VarHandle" ∧ (parseMethodDescriptor yX12_isSheet.desc).map (fun d => d.parameters.length) = some 1 := by decide +kernel
theorem hdS_X12_isSheet : yX12_isSheet.cls ≠ "java/lang/invoke/MethodHandle" ∧ yX12_isSheet.cls ≠ "java/lang/invoke/VarHandle" ∧ (parseMethodDescriptor yX12_isSheet.desc).map (fun d => d.parameters.length) = some 1 := by decide +kernel
theorem hdV_X12_isUnder : yX12_isUnder.cls = RX12 ∧ yX12_isUnder.cls ≠ "java/lang/invoke/MethodHandle" ∧ yX12_isUnder.cls ≠ "java/lang/invoke/VarHandle" ∧ (parseMethodDescriptor yX12_isUnder.desc).map (fun d => d.parameters.length) = some 2 := by decide +kernel
theorem hdS_X12_isUnder : yX12_isUnder.cls ≠ "java/lang/invoke/MethodHandle" ∧ yX12_isUnder.cls ≠ "java/lang/invoke/VarHandle" ∧ (parseMethodDescriptor yX12_isUnder.desc).map (fun d => d.parameters.length) = some 2 := by decide +kernel
theorem hdV_X12_its : yX12_its.cls = RX12 ∧ yX12_its.cls ≠ "java/lang/invoke/MethodHandle" ∧ yX12_its.cls ≠ "java/lang/invoke/VarHandle" ∧ (parseMethodDescriptor yX12_its.desc).map (fun d => d.parameters.length) = some 2 := by decide +kernel
theorem hdS_X12_its : yX12_its.cls ≠ "java/lang/invoke/MethodHandle" ∧ yX12_its.cls ≠ "java/lang/invoke/VarHandle" ∧ (parseMethodDescriptor yX12_its.desc).map (fun d => d.parameters.length) = some 2 := by decide +kernel
theorem hdV_X12_joined : yX12_joined.cls = RX12 ∧ yX12_joined.cls ≠ "java/lang/invoke/MethodHandle" ∧ yX12_joined.cls ≠ "java/lang/invoke/VarHandle" ∧ (parseMethodDescriptor yX12_joined.desc).map (fun d => d.parameters.length) = some 3 := by decide +kernel
theorem hdS_X12_joined : yX12_joined.cls ≠ "java/lang/invoke/MethodHandle" ∧ yX12_joined.cls ≠ "java/lang/invoke/VarHandle" ∧ (parseMethodDescriptor yX12_joined.desc).map (fun d => d.parameters.length) = some 3 := by decide +kernel
theorem hdV_X12_judge : yX12_judge.cls = RX12 ∧ yX12_judge.cls ≠ "java/lang/invoke/MethodHandle" ∧ yX12_judge.cls ≠ "java/lang/invoke/VarHandle" ∧ (parseMethodDescriptor yX12_judge.desc).map (fun d => d.parameters.length) = some 1 := by decide +kernel
theorem hdS_X12_judge : yX12_judge.cls ≠ "java/lang/invoke/MethodHandle" ∧ yX12_judge.cls ≠ "java/lang/invoke/VarHandle" ∧ (parseMethodDescriptor yX12_judge.desc).map (fun d => d.parameters.length) = some 1 := by decide +kernel
theorem hdV_X12_kindNow : yX12_kindNow.cls = RX12 ∧ yX12_kindNow.cls ≠ "java/lang/invoke/MethodHandle" ∧ yX12_kindNow.cls ≠ "java/lang/invoke/VarHandle" ∧ (parseMethodDescriptor yX12_kindNow.desc).map (fun d => d.parameters.length) = some 0 := by decide +kernel
theorem hdS_X12_kindNow : yX12_kindNow.cls ≠ "java/lang/invoke/MethodHandle" ∧ yX12_kindNow.cls ≠ "java/lang/invoke/VarHandle" ∧ (parseMethodDescriptor yX12_kindNow.desc).map (fun d => d.parameters.length) = some 0 := by decide +kernel
theorem hdV_X12_lacks : yX12_lacks.cls = RX12 ∧ yX12_lacks.cls ≠ "java/lang/invoke/MethodHandle" ∧ yX12_lacks.cls ≠ "java/lang/invoke/VarHandle" ∧ (parseMethodDescriptor yX12_lacks.desc).map (fun d => d.parameters.length) = some 1 := by decide +kernel
theorem hdS_X12_lacks : yX12_lacks.cls ≠ "java/lang/invoke/MethodHandle" ∧ yX12_lacks.cls ≠ "java/lang/invoke/VarHandle" ∧ (parseMethodDescriptor yX12_lacks.desc).map (fun d => d.parameters.length) = some 1 := by decide +kernel
theorem hdV_X12_lastAll : yX12_lastAll.cls = RX12 ∧ yX12_lastAll.cls ≠ "java/lang/invoke/MethodHandle" ∧ yX12_lastAll.cls ≠ "java/lang/invoke/VarHandle" ∧ (parseMethodDescriptor yX12_lastAll.desc).map (fun d => d.parameters.length) = some 0 := by decide +kernel
theorem hdS_X12_lastAll : yX12_lastAll.cls ≠ "java/lang/invoke/MethodHandle" ∧ yX12_lastAll.cls ≠ "java/lang/invoke/VarHandle" ∧ (parseMethodDescriptor yX12_lastAll.desc).map (fun d => d.parameters.length) = some 0 := by decide +kernel
theorem hdV_X12_lastOne : yX12_lastOne.cls = RX12 ∧ yX12_lastOne.cls ≠ "java/lang/invoke/MethodHandle" ∧ yX12_lastOne.cls ≠ "java/lang/invoke/VarHandle" ∧ (parseMethodDescriptor yX12_lastOne.desc).map (fun d => d.parameters.length) = some 0 := by decide +kernel
theorem hdS_X12_lastOne : yX12_lastOne.cls ≠ "java/lang/invoke/MethodHandle" ∧ yX12_lastOne.cls ≠ "java/lang/invoke/VarHandle" ∧ (parseMethodDescriptor yX12_lastOne.desc).map (fun d => d.parameters.length) = some 0 := by decide +kernel
theorem hdV_X12_lasts : yX12_lasts.cls = RX12 ∧ yX12_lasts.cls ≠ "java/lang/invoke/MethodHandle" ∧ yX12_lasts.cls ≠ "java/lang/invoke/VarHandle" ∧ (parseMethodDescriptor yX12_lasts.desc).map (fun d => d.parameters.length) = some 1 := by decide +kernel
theorem hdS_X12_lasts : yX12_lasts.cls ≠ "java/lang/invoke/MethodHandle" ∧ yX12_lasts.cls ≠ "java/lang/invoke/VarHandle" ∧ (parseMethodDescriptor yX12_lasts.desc).map (fun d => d.parameters.length) = some 1 := by decide +kernel
theorem hdV_X12_layBack : yX12_layBack.cls = RX12 ∧ yX12_layBack.cls ≠ "java/lang/invoke/MethodHandle" ∧ yX12_layBack.cls ≠ "java/lang/invoke/VarHandle" ∧ (parseMethodDescriptor yX12_layBack.desc).map (fun d => d.parameters.length) = some 1 := by decide +kernel
theorem hdS_X12_layBack : yX12_layBack.cls ≠ "java/lang/invoke/MethodHandle" ∧ yX12_layBack.cls ≠ "java/lang/invoke/VarHandle" ∧ (parseMethodDescriptor yX12_layBack.desc).map (fun d => d.parameters.length) = some 1 := by decide +kernel
theorem hdV_X12_layDown : yX12_layDown.cls = RX12 ∧ yX12_layDown.cls ≠ "java/lang/invoke/MethodHandle" ∧ yX12_layDown.cls ≠ "java/lang/invoke/VarHandle" ∧ (parseMethodDescriptor yX12_layDown.desc).map (fun d => d.parameters.length) = some 1 := by decide +kernel
theorem hdS_X12_layDown : yX12_layDown.cls ≠ "java/lang/invoke/MethodHandle" ∧ yX12_layDown.cls ≠ "java/lang/invoke/VarHandle" ∧ (parseMethodDescriptor yX12_layDown.desc).map (fun d => d.parameters.length) = some 1 := by decide +kernel
theorem hdV_X12_lays1 : yX12_lays1.cls = RX12 ∧ yX12_lays1.cls ≠ "java/lang/invoke/MethodHandle" ∧ yX12_lays1.cls ≠ "java/lang/invoke/VarHandle" ∧ (parseMethodDescriptor yX12_lays1.desc).map (fun d => d.parameters.length) = some 3 := by decide +kernel
theorem hdS_X12_lays1 : yX12_lays1.cls ≠ "java/lang/invoke/MethodHandle" ∧ yX12_lays1.cls ≠ "java/lang/invoke/VarHandle" ∧ (parseMethodDescriptor yX12_lays1.desc).map (fun d => d.parameters.length) = some 3 := by decide +kernel
theorem hdV_X12_leansAs : yX12_leansAs.cls = RX12 ∧ yX12_leansAs.cls ≠ "java/lang/invoke/MethodHandle" ∧ yX12_leansAs.cls ≠ "java/lang/invoke/VarHandle" ∧ (parseMethodDescriptor yX12_leansAs.desc).map (fun d => d.parameters.length) = some 2 := by decide +kernel
theorem hdS_X12_leansAs : yX12_leansAs.cls ≠ "java/lang/invoke/MethodHandle" ∧ yX12_leansAs.cls ≠ "java/lang/invoke/VarHandle" ∧ (parseMethodDescriptor yX12_leansAs.desc).map (fun d => d.parameters.length) = some 2 := by decide +kernel
theorem hdV_X12_look : yX12_look.cls = RX12 ∧ yX12_look.cls ≠ "java/lang/invoke/MethodHandle" ∧ yX12_look.cls ≠ "java/lang/invoke/VarHandle" ∧ (parseMethodDescriptor yX12_look.desc).map (fun d => d.parameters.length) = some 0 := by decide +kernel
theorem hdS_X12_look : yX12_look.cls ≠ "java/lang/invoke/MethodHandle" ∧ yX12_look.cls ≠ "java/lang/invoke/VarHandle" ∧ (parseMethodDescriptor yX12_look.desc).map (fun d => d.parameters.length) = some 0 := by decide +kernel
theorem hdV_X12_loses : yX12_loses.cls = RX12 ∧ yX12_loses.cls ≠ "java/lang/invoke/MethodHandle" ∧ yX12_loses.cls ≠ "java/lang/invoke/VarHandle" ∧ (parseMethodDescriptor yX12_loses.desc).map (fun d => d.parameters.length) = some 2 := by decide +kernel
theorem hdS_X12_loses : yX12_loses.cls ≠ "java/lang/invoke/MethodHandle" ∧ yX12_loses.cls ≠ "java/lang/invoke/VarHandle" ∧ (parseMethodDescriptor yX12_loses.desc).map (fun d => d.parameters.length) = some 2 := by decide +kernel
theorem hdV_X12_mNow : yX12_mNow.cls = RX12 ∧ yX12_mNow.cls ≠ "java/lang/invoke/MethodHandle" ∧ yX12_mNow.cls ≠ "java/lang/invoke/VarHandle" ∧ (parseMethodDescriptor yX12_mNow.desc).map (fun d => d.parameters.length) = some 0 := by decide +kernel
theorem hdS_X12_mNow : yX12_mNow.cls ≠ "java/lang/invoke/MethodHandle" ∧ yX12_mNow.cls ≠ "java/lang/invoke/VarHandle" ∧ (parseMethodDescriptor yX12_mNow.desc).map (fun d => d.parameters.length) = some 0 := by decide +kernel
theorem hdV_X12_minute : yX12_minute.cls = RX12 ∧ yX12_minute.cls ≠ "java/lang/invoke/MethodHandle" ∧ yX12_minute.cls ≠ "java/lang/invoke/VarHandle" ∧ (parseMethodDescriptor yX12_minute.desc).map (fun d => d.parameters.length) = some 0 := by decide +kernel
theorem hdS_X12_minute : yX12_minute.cls ≠ "java/lang/invoke/MethodHandle" ∧ yX12_minute.cls ≠ "java/lang/invoke/VarHandle" ∧ (parseMethodDescriptor yX12_minute.desc).map (fun d => d.parameters.length) = some 0 := by decide +kernel
theorem hdV_X12_minutes : yX12_minutes.cls = RX12 ∧ yX12_minutes.cls ≠ "java/lang/invoke/MethodHandle" ∧ yX12_minutes.cls ≠ "java/lang/invoke/VarHandle" ∧ (parseMethodDescriptor yX12_minutes.desc).map (fun d => d.parameters.length) = some 1 := by decide +kernel
theorem hdS_X12_minutes : yX12_minutes.cls ≠ "java/lang/invoke/MethodHandle" ∧ yX12_minutes.cls ≠ "java/lang/invoke/VarHandle" ∧ (parseMethodDescriptor yX12_minutes.desc).map (fun d => d.parameters.length) = some 1 := by decide +kernel
theorem hdV_X12_move : yX12_move.cls = RX12 ∧ yX12_move.cls ≠ "java/lang/invoke/MethodHandle" ∧ yX12_move.cls ≠ "java/lang/invoke/VarHandle" ∧ (parseMethodDescriptor yX12_move.desc).map (fun d => d.parameters.length) = some 5 := by decide +kernel
theorem hdS_X12_move : yX12_move.cls ≠ "java/lang/invoke/MethodHandle" ∧ yX12_move.cls ≠ "java/lang/invoke/VarHandle" ∧ (parseMethodDescriptor yX12_move.desc).map (fun d => d.parameters.length) = some 5 := by decide +kernel
theorem hdV_X12_one : yX12_one.cls = RX12 ∧ yX12_one.cls ≠ "java/lang/invoke/MethodHandle" ∧ yX12_one.cls ≠ "java/lang/invoke/VarHandle" ∧ (parseMethodDescriptor yX12_one.desc).map (fun d => d.parameters.length) = some 0 := by decide +kernel
theorem hdS_X12_one : yX12_one.cls ≠ "java/lang/invoke/MethodHandle" ∧ yX12_one.cls ≠ "java/lang/invoke/VarHandle" ∧ (parseMethodDescriptor yX12_one.desc).map (fun d => d.parameters.length) = some 0 := by decide +kernel
theorem hdV_X12_opens : yX12_opens.cls = RX12 ∧ yX12_opens.cls ≠ "java/lang/invoke/MethodHandle" ∧ yX12_opens.cls ≠ "java/lang/invoke/VarHandle" ∧ (parseMethodDescriptor yX12_opens.desc).map (fun d => d.parameters.length) = some 0 := by decide +kernel
theorem hdS_X12_opens : yX12_opens.cls ≠ "java/lang/invoke/MethodHandle" ∧ yX12_opens.cls ≠ "java/lang/invoke/VarHandle" ∧ (parseMethodDescriptor yX12_opens.desc).map (fun d => d.parameters.length) = some 0 := by decide +kernel
theorem hdV_X12_partsAs : yX12_partsAs.cls = RX12 ∧ yX12_partsAs.cls ≠ "java/lang/invoke/MethodHandle" ∧ yX12_partsAs.cls ≠ "java/lang/invoke/VarHandle" ∧ (parseMethodDescriptor yX12_partsAs.desc).map (fun d => d.parameters.length) = some 2 := by decide +kernel
theorem hdS_X12_partsAs : yX12_partsAs.cls ≠ "java/lang/invoke/MethodHandle" ∧ yX12_partsAs.cls ≠ "java/lang/invoke/VarHandle" ∧ (parseMethodDescriptor yX12_partsAs.desc).map (fun d => d.parameters.length) = some 2 := by decide +kernel
theorem hdV_X12_patience : yX12_patience.cls = RX12 ∧ yX12_patience.cls ≠ "java/lang/invoke/MethodHandle" ∧ yX12_patience.cls ≠ "java/lang/invoke/VarHandle" ∧ (parseMethodDescriptor yX12_patience.desc).map (fun d => d.parameters.length) = some 2 := by decide +kernel
theorem hdS_X12_patience : yX12_patience.cls ≠ "java/lang/invoke/MethodHandle" ∧ yX12_patience.cls ≠ "java/lang/invoke/VarHandle" ∧ (parseMethodDescriptor yX12_patience.desc).map (fun d => d.parameters.length) = some 2 := by decide +kernel
theorem hdV_X12_poke : yX12_poke.cls = RX12 ∧ yX12_poke.cls ≠ "java/lang/invoke/MethodHandle" ∧ yX12_poke.cls ≠ "java/lang/invoke/VarHandle" ∧ (parseMethodDescriptor yX12_poke.desc).map (fun d => d.parameters.length) = some 1 := by decide +kernel
theorem hdS_X12_poke : yX12_poke.cls ≠ "java/lang/invoke/MethodHandle" ∧ yX12_poke.cls ≠ "java/lang/invoke/VarHandle" ∧ (parseMethodDescriptor yX12_poke.desc).map (fun d => d.parameters.length) = some 1 := by decide +kernel
theorem hdV_X12_pokes : yX12_pokes.cls = RX12 ∧ yX12_pokes.cls ≠ "java/lang/invoke/MethodHandle" ∧ yX12_pokes.cls ≠ "java/lang/invoke/VarHandle" ∧ (parseMethodDescriptor yX12_pokes.desc).map (fun d => d.parameters.length) = some 1 := by decide +kernel
theorem hdS_X12_pokes : yX12_pokes.cls ≠ "java/lang/invoke/MethodHandle" ∧ yX12_pokes.cls ≠ "java/lang/invoke/VarHandle" ∧ (parseMethodDescriptor yX12_pokes.desc).map (fun d => d.parameters.length) = some 1 := by decide +kernel
theorem hdV_X12_product : yX12_product.cls = RX12 ∧ yX12_product.cls ≠ "java/lang/invoke/MethodHandle" ∧ yX12_product.cls ≠ "java/lang/invoke/VarHandle" ∧ (parseMethodDescriptor yX12_product.desc).map (fun d => d.parameters.length) = some 0 := by decide +kernel
theorem hdS_X12_product : yX12_product.cls ≠ "java/lang/invoke/MethodHandle" ∧ yX12_product.cls ≠ "java/lang/invoke/VarHandle" ∧ (parseMethodDescriptor yX12_product.desc).map (fun d => d.parameters.length) = some 0 := by decide +kernel
theorem hdV_X12_put : yX12_put.cls = RX12 ∧ yX12_put.cls ≠ "java/lang/invoke/MethodHandle" ∧ yX12_put.cls ≠ "java/lang/invoke/VarHandle" ∧ (parseMethodDescriptor yX12_put.desc).map (fun d => d.parameters.length) = some 3 := by decide +kernel
theorem hdS_X12_put : yX12_put.cls ≠ "java/lang/invoke/MethodHandle" ∧ yX12_put.cls ≠ "java/lang/invoke/VarHandle" ∧ (parseMethodDescriptor yX12_put.desc).map (fun d => d.parameters.length) = some 3 := by decide +kernel
theorem hdV_X12_restore : yX12_restore.cls = RX12 ∧ yX12_restore.cls ≠ "java/lang/invoke/MethodHandle" ∧ yX12_restore.cls ≠ "java/lang/invoke/VarHandle" ∧ (parseMethodDescriptor yX12_restore.desc).map (fun d => d.parameters.length) = some 0 := by decide +kernel
theorem hdS_X12_restore : yX12_restore.cls ≠ "java/lang/invoke/MethodHandle" ∧ yX12_restore.cls ≠ "java/lang/invoke/VarHandle" ∧ (parseMethodDescriptor yX12_restore.desc).map (fun d => d.parameters.length) = some 0 := by decide +kernel
theorem hdV_X12_round : yX12_round.cls = RX12 ∧ yX12_round.cls ≠ "java/lang/invoke/MethodHandle" ∧ yX12_round.cls ≠ "java/lang/invoke/VarHandle" ∧ (parseMethodDescriptor yX12_round.desc).map (fun d => d.parameters.length) = some 3 := by decide +kernel
theorem hdS_X12_round : yX12_round.cls ≠ "java/lang/invoke/MethodHandle" ∧ yX12_round.cls ≠ "java/lang/invoke/VarHandle" ∧ (parseMethodDescriptor yX12_round.desc).map (fun d => d.parameters.length) = some 3 := by decide +kernel
theorem hdV_X12_seed : yX12_seed.cls = RX12 ∧ yX12_seed.cls ≠ "java/lang/invoke/MethodHandle" ∧ yX12_seed.cls ≠ "java/lang/invoke/VarHandle" ∧ (parseMethodDescriptor yX12_seed.desc).map (fun d => d.parameters.length) = some 1 := by decide +kernel
theorem hdS_X12_seed : yX12_seed.cls ≠ "java/lang/invoke/MethodHandle" ∧ yX12_seed.cls ≠ "java/lang/invoke/VarHandle" ∧ (parseMethodDescriptor yX12_seed.desc).map (fun d => d.parameters.length) = some 1 := by decide +kernel
theorem hdV_X12_settle : yX12_settle.cls = RX12 ∧ yX12_settle.cls ≠ "java/lang/invoke/MethodHandle" ∧ yX12_settle.cls ≠ "java/lang/invoke/VarHandle" ∧ (parseMethodDescriptor yX12_settle.desc).map (fun d => d.parameters.length) = some 0 := by decide +kernel
theorem hdS_X12_settle : yX12_settle.cls ≠ "java/lang/invoke/MethodHandle" ∧ yX12_settle.cls ≠ "java/lang/invoke/VarHandle" ∧ (parseMethodDescriptor yX12_settle.desc).map (fun d => d.parameters.length) = some 0 := by decide +kernel
theorem hdV_X12_shaken : yX12_shaken.cls = RX12 ∧ yX12_shaken.cls ≠ "java/lang/invoke/MethodHandle" ∧ yX12_shaken.cls ≠ "java/lang/invoke/VarHandle" ∧ (parseMethodDescriptor yX12_shaken.desc).map (fun d => d.parameters.length) = some 2 := by decide +kernel
theorem hdS_X12_shaken : yX12_shaken.cls ≠ "java/lang/invoke/MethodHandle" ∧ yX12_shaken.cls ≠ "java/lang/invoke/VarHandle" ∧ (parseMethodDescriptor yX12_shaken.desc).map (fun d => d.parameters.length) = some 2 := by decide +kernel
theorem hdV_X12_sheet : yX12_sheet.cls = RX12 ∧ yX12_sheet.cls ≠ "java/lang/invoke/MethodHandle" ∧ yX12_sheet.cls ≠ "java/lang/invoke/VarHandle" ∧ (parseMethodDescriptor yX12_sheet.desc).map (fun d => d.parameters.length) = some 3 := by decide +kernel
theorem hdS_X12_sheet : yX12_sheet.cls ≠ "java/lang/invoke/MethodHandle" ∧ yX12_sheet.cls ≠ "java/lang/invoke/VarHandle" ∧ (parseMethodDescriptor yX12_sheet.desc).map (fun d => d.parameters.length) = some 3 := by decide +kernel
theorem hdV_X12_slate : yX12_slate.cls = RX12 ∧ yX12_slate.cls ≠ "java/lang/invoke/MethodHandle" ∧ yX12_slate.cls ≠ "java/lang/invoke/VarHandle" ∧ (parseMethodDescriptor yX12_slate.desc).map (fun d => d.parameters.length) = some 2 := by decide +kernel
theorem hdS_X12_slate : yX12_slate.cls ≠ "java/lang/invoke/MethodHandle" ∧ yX12_slate.cls ≠ "java/lang/invoke/VarHandle" ∧ (parseMethodDescriptor yX12_slate.desc).map (fun d => d.parameters.length) = some 2 := by decide +kernel
theorem hdV_X12_spends : yX12_spends.cls = RX12 ∧ yX12_spends.cls ≠ "java/lang/invoke/MethodHandle" ∧ yX12_spends.cls ≠ "java/lang/invoke/VarHandle" ∧ (parseMethodDescriptor yX12_spends.desc).map (fun d => d.parameters.length) = some 1 := by decide +kernel
theorem hdS_X12_spends : yX12_spends.cls ≠ "java/lang/invoke/MethodHandle" ∧ yX12_spends.cls ≠ "java/lang/invoke/VarHandle" ∧ (parseMethodDescriptor yX12_spends.desc).map (fun d => d.parameters.length) = some 1 := by decide +kernel
theorem hdV_X12_spendsTold : yX12_spendsTold.cls = RX12 ∧ yX12_spendsTold.cls ≠ "java/lang/invoke/MethodHandle" ∧ yX12_spendsTold.cls ≠ "java/lang/invoke/VarHandle" ∧ (parseMethodDescriptor yX12_spendsTold.desc).map (fun d => d.parameters.length) = some 1 := by decide +kernel
theorem hdS_X12_spendsTold : yX12_spendsTold.cls ≠ "java/lang/invoke/MethodHandle" ∧ yX12_spendsTold.cls ≠ "java/lang/invoke/VarHandle" ∧ (parseMethodDescriptor yX12_spendsTold.desc).map (fun d => d.parameters.length) = some 1 := by decide +kernel
theorem hdV_X12_standSet : yX12_standSet.cls = RX12 ∧ yX12_standSet.cls ≠ "java/lang/invoke/MethodHandle" ∧ yX12_standSet.cls ≠ "java/lang/invoke/VarHandle" ∧ (parseMethodDescriptor yX12_standSet.desc).map (fun d => d.parameters.length) = some 0 := by decide +kernel
theorem hdS_X12_standSet : yX12_standSet.cls ≠ "java/lang/invoke/MethodHandle" ∧ yX12_standSet.cls ≠ "java/lang/invoke/VarHandle" ∧ (parseMethodDescriptor yX12_standSet.desc).map (fun d => d.parameters.length) = some 0 := by decide +kernel
theorem hdV_X12_stander : yX12_stander.cls = RX12 ∧ yX12_stander.cls ≠ "java/lang/invoke/MethodHandle" ∧ yX12_stander.cls ≠ "java/lang/invoke/VarHandle" ∧ (parseMethodDescriptor yX12_stander.desc).map (fun d => d.parameters.length) = some 2 := by decide +kernel
theorem hdS_X12_stander : yX12_stander.cls ≠ "java/lang/invoke/MethodHandle" ∧ yX12_stander.cls ≠ "java/lang/invoke/VarHandle" ∧ (parseMethodDescriptor yX12_stander.desc).map (fun d => d.parameters.length) = some 2 := by decide +kernel
theorem hdV_X12_standerIs : yX12_standerIs.cls = RX12 ∧ yX12_standerIs.cls ≠ "java/lang/invoke/MethodHandle" ∧ yX12_standerIs.cls ≠ "java/lang/invoke/VarHandle" ∧ (parseMethodDescriptor yX12_standerIs.desc).map (fun d => d.parameters.length) = some 2 := by decide +kernel
theorem hdS_X12_standerIs : yX12_standerIs.cls ≠ "java/lang/invoke/MethodHandle" ∧ yX12_standerIs.cls ≠ "java/lang/invoke/VarHandle" ∧ (parseMethodDescriptor yX12_standerIs.desc).map (fun d => d.parameters.length) = some 2 := by decide +kernel
theorem hdV_X12_standing : yX12_standing.cls = RX12 ∧ yX12_standing.cls ≠ "java/lang/invoke/MethodHandle" ∧ yX12_standing.cls ≠ "java/lang/invoke/VarHandle" ∧ (parseMethodDescriptor yX12_standing.desc).map (fun d => d.parameters.length) = some 1 := by decide +kernel
theorem hdS_X12_standing : yX12_standing.cls ≠ "java/lang/invoke/MethodHandle" ∧ yX12_standing.cls ≠ "java/lang/invoke/VarHandle" ∧ (parseMethodDescriptor yX12_standing.desc).map (fun d => d.parameters.length) = some 1 := by decide +kernel
theorem hdV_X12_stands : yX12_stands.cls = RX12 ∧ yX12_stands.cls ≠ "java/lang/invoke/MethodHandle" ∧ yX12_stands.cls ≠ "java/lang/invoke/VarHandle" ∧ (parseMethodDescriptor yX12_stands.desc).map (fun d => d.parameters.length) = some 1 := by decide +kernel
theorem hdS_X12_stands : yX12_stands.cls ≠ "java/lang/invoke/MethodHandle" ∧ yX12_stands.cls ≠ "java/lang/invoke/VarHandle" ∧ (parseMethodDescriptor yX12_stands.desc).map (fun d => d.parameters.length) = some 1 := by decide +kernel
theorem hdV_X12_standsAt : yX12_standsAt.cls = RX12 ∧ yX12_standsAt.cls ≠ "java/lang/invoke/MethodHandle" ∧ yX12_standsAt.cls ≠ "java/lang/invoke/VarHandle" ∧ (parseMethodDescriptor yX12_standsAt.desc).map (fun d => d.parameters.length) = some 1 := by decide +kernel
theorem hdS_X12_standsAt : yX12_standsAt.cls ≠ "java/lang/invoke/MethodHandle" ∧ yX12_standsAt.cls ≠ "java/lang/invoke/VarHandle" ∧ (parseMethodDescriptor yX12_standsAt.desc).map (fun d => d.parameters.length) = some 1 := by decide +kernel
theorem hdV_X12_step1 : yX12_step1.cls = RX12 ∧ yX12_step1.cls ≠ "java/lang/invoke/MethodHandle" ∧ yX12_step1.cls ≠ "java/lang/invoke/VarHandle" ∧ (parseMethodDescriptor yX12_step1.desc).map (fun d => d.parameters.length) = some 2 := by decide +kernel
theorem hdS_X12_step1 : yX12_step1.cls ≠ "java/lang/invoke/MethodHandle" ∧ yX12_step1.cls ≠ "java/lang/invoke/VarHandle" ∧ (parseMethodDescriptor yX12_step1.desc).map (fun d => d.parameters.length) = some 2 := by decide +kernel
theorem hdV_X12_stirs : yX12_stirs.cls = RX12 ∧ yX12_stirs.cls ≠ "java/lang/invoke/MethodHandle" ∧ yX12_stirs.cls ≠ "java/lang/invoke/VarHandle" ∧ (parseMethodDescriptor yX12_stirs.desc).map (fun d => d.parameters.length) = some 1 := by decide +kernel
theorem hdS_X12_stirs : yX12_stirs.cls ≠ "java/lang/invoke/MethodHandle" ∧ yX12_stirs.cls ≠ "java/lang/invoke/VarHandle" ∧ (parseMethodDescriptor yX12_stirs.desc).map (fun d => d.parameters.length) = some 1 := by decide +kernel
theorem hdV_X12_sum : yX12_sum.cls = RX12 ∧ yX12_sum.cls ≠ "java/lang/invoke/MethodHandle" ∧ yX12_sum.cls ≠ "java/lang/invoke/VarHandle" ∧ (parseMethodDescriptor yX12_sum.desc).map (fun d => d.parameters.length) = some 0 := by decide +kernel
theorem hdS_X12_sum : yX12_sum.cls ≠ "java/lang/invoke/MethodHandle" ∧ yX12_sum.cls ≠ "java/lang/invoke/VarHandle" ∧ (parseMethodDescriptor yX12_sum.desc).map (fun d => d.parameters.length) = some 0 := by decide +kernel
theorem hdV_X12_sun : yX12_sun.cls = RX12 ∧ yX12_sun.cls ≠ "java/lang/invoke/MethodHandle" ∧ yX12_sun.cls ≠ "java/lang/invoke/VarHandle" ∧ (parseMethodDescriptor yX12_sun.desc).map (fun d => d.parameters.length) = some 1 := by decide +kernel
theorem hdS_X12_sun : yX12_sun.cls ≠ "java/lang/invoke/MethodHandle" ∧ yX12_sun.cls ≠ "java/lang/invoke/VarHandle" ∧ (parseMethodDescriptor yX12_sun.desc).map (fun d => d.parameters.length) = some 1 := by decide +kernel
theorem hdV_X12_swap : yX12_swap.cls = RX12 ∧ yX12_swap.cls ≠ "java/lang/invoke/MethodHandle" ∧ yX12_swap.cls ≠ "java/lang/invoke/VarHandle" ∧ (parseMethodDescriptor yX12_swap.desc).map (fun d => d.parameters.length) = some 2 := by decide +kernel
theorem hdS_X12_swap : yX12_swap.cls ≠ "java/lang/invoke/MethodHandle" ∧ yX12_swap.cls ≠ "java/lang/invoke/VarHandle" ∧ (parseMethodDescriptor yX12_swap.desc).map (fun d => d.parameters.length) = some 2 := by decide +kernel
theorem hdV_X12_swaps : yX12_swaps.cls = RX12 ∧ yX12_swaps.cls ≠ "java/lang/invoke/MethodHandle" ∧ yX12_swaps.cls ≠ "java/lang/invoke/VarHandle" ∧ (parseMethodDescriptor yX12_swaps.desc).map (fun d => d.parameters.length) = some 2 := by decide +kernel
theorem hdS_X12_swaps : yX12_swaps.cls ≠ "java/lang/invoke/MethodHandle" ∧ yX12_swaps.cls ≠ "java/lang/invoke/VarHandle" ∧ (parseMethodDescriptor yX12_swaps.desc).map (fun d => d.parameters.length) = some 2 := by decide +kernel
theorem hdV_X12_swaysAs : yX12_swaysAs.cls = RX12 ∧ yX12_swaysAs.cls ≠ "java/lang/invoke/MethodHandle" ∧ yX12_swaysAs.cls ≠ "java/lang/invoke/VarHandle" ∧ (parseMethodDescriptor yX12_swaysAs.desc).map (fun d => d.parameters.length) = some 2 := by decide +kernel
theorem hdS_X12_swaysAs : yX12_swaysAs.cls ≠ "java/lang/invoke/MethodHandle" ∧ yX12_swaysAs.cls ≠ "java/lang/invoke/VarHandle" ∧ (parseMethodDescriptor yX12_swaysAs.desc).map (fun d => d.parameters.length) = some 2 := by decide +kernel
theorem hdV_X12_tell : yX12_tell.cls = RX12 ∧ yX12_tell.cls ≠ "java/lang/invoke/MethodHandle" ∧ yX12_tell.cls ≠ "java/lang/invoke/VarHandle" ∧ (parseMethodDescriptor yX12_tell.desc).map (fun d => d.parameters.length) = some 1 := by decide +kernel
theorem hdS_X12_tell : yX12_tell.cls ≠ "java/lang/invoke/MethodHandle" ∧ yX12_tell.cls ≠ "java/lang/invoke/VarHandle" ∧ (parseMethodDescriptor yX12_tell.desc).map (fun d => d.parameters.length) = some 1 := by decide +kernel
theorem hdV_X12_text : yX12_text.cls = RX12 ∧ yX12_text.cls ≠ "java/lang/invoke/MethodHandle" ∧ yX12_text.cls ≠ "java/lang/invoke/VarHandle" ∧ (parseMethodDescriptor yX12_text.desc).map (fun d => d.parameters.length) = some 1 := by decide +kernel
theorem hdS_X12_text : yX12_text.cls ≠ "java/lang/invoke/MethodHandle" ∧ yX12_text.cls ≠ "java/lang/invoke/VarHandle" ∧ (parseMethodDescriptor yX12_text.desc).map (fun d => d.parameters.length) = some 1 := by decide +kernel
theorem hdV_X12_then : yX12_then.cls = RX12 ∧ yX12_then.cls ≠ "java/lang/invoke/MethodHandle" ∧ yX12_then.cls ≠ "java/lang/invoke/VarHandle" ∧ (parseMethodDescriptor yX12_then.desc).map (fun d => d.parameters.length) = some 3 := by decide +kernel
theorem hdS_X12_then : yX12_then.cls ≠ "java/lang/invoke/MethodHandle" ∧ yX12_then.cls ≠ "java/lang/invoke/VarHandle" ∧ (parseMethodDescriptor yX12_then.desc).map (fun d => d.parameters.length) = some 3 := by decide +kernel
theorem hdV_X12_told : yX12_told.cls = RX12 ∧ yX12_told.cls ≠ "java/lang/invoke/MethodHandle" ∧ yX12_told.cls ≠ "java/lang/invoke/VarHandle" ∧ (parseMethodDescriptor yX12_told.desc).map (fun d => d.parameters.length) = some 1 := by decide +kernel
theorem hdS_X12_told : yX12_told.cls ≠ "java/lang/invoke/MethodHandle" ∧ yX12_told.cls ≠ "java/lang/invoke/VarHandle" ∧ (parseMethodDescriptor yX12_told.desc).map (fun d => d.parameters.length) = some 1 := by decide +kernel
theorem hdV_X12_untell : yX12_untell.cls = RX12 ∧ yX12_untell.cls ≠ "java/lang/invoke/MethodHandle" ∧ yX12_untell.cls ≠ "java/lang/invoke/VarHandle" ∧ (parseMethodDescriptor yX12_untell.desc).map (fun d => d.parameters.length) = some 1 := by decide +kernel
theorem hdS_X12_untell : yX12_untell.cls ≠ "java/lang/invoke/MethodHandle" ∧ yX12_untell.cls ≠ "java/lang/invoke/VarHandle" ∧ (parseMethodDescriptor yX12_untell.desc).map (fun d => d.parameters.length) = some 1 := by decide +kernel
theorem hdV_X12_voice : yX12_voice.cls = RX12 ∧ yX12_voice.cls ≠ "java/lang/invoke/MethodHandle" ∧ yX12_voice.cls ≠ "java/lang/invoke/VarHandle" ∧ (parseMethodDescriptor yX12_voice.desc).map (fun d => d.parameters.length) = some 3 := by decide +kernel
theorem hdS_X12_voice : yX12_voice.cls ≠ "java/lang/invoke/MethodHandle" ∧ yX12_voice.cls ≠ "java/lang/invoke/VarHandle" ∧ (parseMethodDescriptor yX12_voice.desc).map (fun d => d.parameters.length) = some 3 := by decide +kernel
theorem hdV_X12_whole : yX12_whole.cls = RX12 ∧ yX12_whole.cls ≠ "java/lang/invoke/MethodHandle" ∧ yX12_whole.cls ≠ "java/lang/invoke/VarHandle" ∧ (parseMethodDescriptor yX12_whole.desc).map (fun d => d.parameters.length) = some 0 := by decide +kernel
theorem hdS_X12_whole : yX12_whole.cls ≠ "java/lang/invoke/MethodHandle" ∧ yX12_whole.cls ≠ "java/lang/invoke/VarHandle" ∧ (parseMethodDescriptor yX12_whole.desc).map (fun d => d.parameters.length) = some 0 := by decide +kernel
theorem hdV_X12_whose : yX12_whose.cls = RX12 ∧ yX12_whose.cls ≠ "java/lang/invoke/MethodHandle" ∧ yX12_whose.cls ≠ "java/lang/invoke/VarHandle" ∧ (parseMethodDescriptor yX12_whose.desc).map (fun d => d.parameters.length) = some 1 := by decide +kernel
theorem hdS_X12_whose : yX12_whose.cls ≠ "java/lang/invoke/MethodHandle" ∧ yX12_whose.cls ≠ "java/lang/invoke/VarHandle" ∧ (parseMethodDescriptor yX12_whose.desc).map (fun d => d.parameters.length) = some 1 := by decide +kernel
theorem hdV_X12_worked : yX12_worked.cls = RX12 ∧ yX12_worked.cls ≠ "java/lang/invoke/MethodHandle" ∧ yX12_worked.cls ≠ "java/lang/invoke/VarHandle" ∧ (parseMethodDescriptor yX12_worked.desc).map (fun d => d.parameters.length) = some 1 := by decide +kernel
theorem hdS_X12_worked : yX12_worked.cls ≠ "java/lang/invoke/MethodHandle" ∧ yX12_worked.cls ≠ "java/lang/invoke/VarHandle" ∧ (parseMethodDescriptor yX12_worked.desc).map (fun d => d.parameters.length) = some 1 := by decide +kernel
theorem hdS_J6_bitCount_0f7a4 : yJ6_bitCount_0f7a4.cls ≠ "java/lang/invoke/MethodHandle" ∧ yJ6_bitCount_0f7a4.cls ≠ "java/lang/invoke/VarHandle" ∧ (parseMethodDescriptor yJ6_bitCount_0f7a4.desc).map (fun d => d.parameters.length) = some 1 := by decide +kernel
theorem hdS_J9_abs_0f7a4 : yJ9_abs_0f7a4.cls ≠ "java/lang/invoke/MethodHandle" ∧ yJ9_abs_0f7a4.cls ≠ "java/lang/invoke/VarHandle" ∧ (parseMethodDescriptor yJ9_abs_0f7a4.desc).map (fun d => d.parameters.length) = some 1 := by decide +kernel
theorem hdS_J9_max_7cf53 : yJ9_max_7cf53.cls ≠ "java/lang/invoke/MethodHandle" ∧ yJ9_max_7cf53.cls ≠ "java/lang/invoke/VarHandle" ∧ (parseMethodDescriptor yJ9_max_7cf53.desc).map (fun d => d.parameters.length) = some 2 := by decide +kernel
theorem hdS_J9_max_f86c9 : yJ9_max_f86c9.cls ≠ "java/lang/invoke/MethodHandle" ∧ yJ9_max_f86c9.cls ≠ "java/lang/invoke/VarHandle" ∧ (parseMethodDescriptor yJ9_max_f86c9.desc).map (fun d => d.parameters.length) = some 2 := by decide +kernel
theorem hdS_J9_min_7cf53 : yJ9_min_7cf53.cls ≠ "java/lang/invoke/MethodHandle" ∧ yJ9_min_7cf53.cls ≠ "java/lang/invoke/VarHandle" ∧ (parseMethodDescriptor yJ9_min_7cf53.desc).map (fun d => d.parameters.length) = some 2 := by decide +kernel
