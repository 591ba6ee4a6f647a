theorem tbl_all {ws : List Cond} (h : ws.all (fun w => decide (w ∈ lw_tbl) && goodWord w) = true) : ∀ w ∈ ws, w ∈ tbl := fun w hw => by
  have h1 := List.all_eq_true.mp h w hw
  simp only [Bool.and_eq_true, decide_eq_true_eq] at h1
  exact List.mem_filter.mpr h1
theorem iX1 : ∀ w ∈ u_ws RX1 TX1 9, w ∈ tbl := fun w h => tbl_all (by decide +kernel) w h
theorem iX4 : ∀ w ∈ u_ws RX4 TX4 10, w ∈ tbl := fun w h => tbl_all (by decide +kernel) w h
theorem iX5 : ∀ w ∈ u_ws RX5 TX5 8, w ∈ tbl := fun w h => tbl_all (by decide +kernel) w h
theorem iX6 : ∀ w ∈ u_ws RX6 TX6 7, w ∈ tbl := fun w h => tbl_all (by decide +kernel) w h
theorem iX11 : ∀ w ∈ u_ws RX11 TX11 10, w ∈ tbl := fun w h => tbl_all (by decide +kernel) w h
theorem iX12 : ∀ w ∈ u_ws RX12 TX12 21, w ∈ tbl := fun w h => tbl_all (by decide +kernel) w h
theorem k_0 : (Cond.selects RX11 yX11_fails yX11_fails) ∈ tbl := tbl_m 0 (by decide +kernel) (by decide +kernel)
theorem k_1 : (Cond.selects RX4 yX4_leastAtZero yX4_leastAtZero) ∈ tbl := tbl_m 1 (by decide +kernel) (by decide +kernel)
theorem k_2 : (Cond.selects RX4 yX4_stir yX4_stir) ∈ tbl := tbl_m 2 (by decide +kernel) (by decide +kernel)
theorem k_3 : (Cond.selects RX4 yX4_lessen yX4_lessen) ∈ tbl := tbl_m 3 (by decide +kernel) (by decide +kernel)
theorem k_4 : (Cond.selects RX1 yX1_readEither yX1_readEither) ∈ tbl := tbl_m 4 (by decide +kernel) (by decide +kernel)
theorem k_5 : (Cond.selects RX1 yX1_readBoth yX1_readBoth) ∈ tbl := tbl_m 5 (by decide +kernel) (by decide +kernel)
theorem k_6 : (Cond.selects RX1 yX1_readCompared yX1_readCompared) ∈ tbl := tbl_m 6 (by decide +kernel) (by decide +kernel)
theorem k_7 : (Cond.selects RX1 yX1_readSum yX1_readSum) ∈ tbl := tbl_m 7 (by decide +kernel) (by decide +kernel)
theorem k_8 : (Cond.selects RX1 yX1_readProduct yX1_readProduct) ∈ tbl := tbl_m 8 (by decide +kernel) (by decide +kernel)
theorem k_9 : (Cond.selects RX1 yX1_readUnit yX1_readUnit) ∈ tbl := tbl_m 9 (by decide +kernel) (by decide +kernel)
theorem k_10 : (Cond.selects RX1 yX1_seesDigit yX1_seesDigit) ∈ tbl := tbl_m 10 (by decide +kernel) (by decide +kernel)
theorem k_11 : (Cond.selects RX1 yX1_nextSign yX1_nextSign) ∈ tbl := tbl_m 11 (by decide +kernel) (by decide +kernel)
theorem k_12 : (Cond.selects RX1 yX1_readNumber yX1_readNumber) ∈ tbl := tbl_m 12 (by decide +kernel) (by decide +kernel)
theorem k_13 : (Cond.selects RX1 yX1_takeSign yX1_takeSign) ∈ tbl := tbl_m 13 (by decide +kernel) (by decide +kernel)
theorem k_14 : (Cond.selects RX1 yX1_write yX1_write) ∈ tbl := tbl_m 14 (by decide +kernel) (by decide +kernel)
theorem k_15 : (Cond.selects RX1 yX1_sees yX1_sees) ∈ tbl := tbl_m 15 (by decide +kernel) (by decide +kernel)
theorem k_16 : (Cond.selects RX1 yX1_readBracket yX1_readBracket) ∈ tbl := tbl_m 16 (by decide +kernel) (by decide +kernel)
theorem k_17 : (Cond.selects RX11 yX11_lookAhead yX11_lookAhead) ∈ tbl := tbl_m 17 (by decide +kernel) (by decide +kernel)
theorem k_18 : (Cond.selects RX11 yX11_bestRound yX11_bestRound) ∈ tbl := tbl_m 18 (by decide +kernel) (by decide +kernel)
theorem k_19 : (Cond.selects RX11 yX11_flyRow yX11_flyRow) ∈ tbl := tbl_m 19 (by decide +kernel) (by decide +kernel)
theorem k_20 : (Cond.selects RX11 yX11_isEmptiedBy yX11_isEmptiedBy) ∈ tbl := tbl_m 20 (by decide +kernel) (by decide +kernel)
theorem k_21 : (Cond.selects RX11 yX11_isMissing yX11_isMissing) ∈ tbl := tbl_m 21 (by decide +kernel) (by decide +kernel)
theorem k_22 : (Cond.selects RX11 yX11_stand yX11_stand) ∈ tbl := tbl_m 22 (by decide +kernel) (by decide +kernel)
theorem k_23 : (Cond.selects RX12 yX12_lays1 yX12_lays1) ∈ tbl := tbl_m 23 (by decide +kernel) (by decide +kernel)
theorem k_24 : (Cond.selects RX12 yX12_error yX12_error) ∈ tbl := tbl_m 24 (by decide +kernel) (by decide +kernel)
theorem k_25 : (Cond.selects RX12 yX12_whole yX12_whole) ∈ tbl := tbl_m 25 (by decide +kernel) (by decide +kernel)
theorem k_26 : (Cond.selects RX12 yX12_both yX12_both) ∈ tbl := tbl_m 26 (by decide +kernel) (by decide +kernel)
theorem k_27 : (Cond.selects RX12 yX12_compared yX12_compared) ∈ tbl := tbl_m 27 (by decide +kernel) (by decide +kernel)
theorem k_28 : (Cond.selects RX12 yX12_sum yX12_sum) ∈ tbl := tbl_m 28 (by decide +kernel) (by decide +kernel)
theorem k_29 : (Cond.selects RX12 yX12_product yX12_product) ∈ tbl := tbl_m 29 (by decide +kernel) (by decide +kernel)
theorem k_30 : (Cond.selects RX12 yX12_one yX12_one) ∈ tbl := tbl_m 30 (by decide +kernel) (by decide +kernel)
theorem k_31 : (Cond.selects RX12 yX12_look yX12_look) ∈ tbl := tbl_m 31 (by decide +kernel) (by decide +kernel)
theorem k_32 : (Cond.selects RX12 yX12_isName yX12_isName) ∈ tbl := tbl_m 32 (by decide +kernel) (by decide +kernel)
theorem k_33 : (Cond.selects RX12 yX12_step1 yX12_step1) ∈ tbl := tbl_m 33 (by decide +kernel) (by decide +kernel)
theorem k_34 : (Cond.selects RX12 yX12_opens yX12_opens) ∈ tbl := tbl_m 34 (by decide +kernel) (by decide +kernel)
theorem k_35 : (Cond.selects RX12 yX12_hasText yX12_hasText) ∈ tbl := tbl_m 35 (by decide +kernel) (by decide +kernel)
theorem k_36 : (Cond.selects RX12 yX12_its yX12_its) ∈ tbl := tbl_m 36 (by decide +kernel) (by decide +kernel)
theorem k_37 : (Cond.selects RX12 yX12_spends yX12_spends) ∈ tbl := tbl_m 37 (by decide +kernel) (by decide +kernel)
theorem k_38 : (Cond.selects RX12 yX12_spendsTold yX12_spendsTold) ∈ tbl := tbl_m 38 (by decide +kernel) (by decide +kernel)
theorem k_39 : (Cond.selects RX12 yX12_worked yX12_worked) ∈ tbl := tbl_m 39 (by decide +kernel) (by decide +kernel)
theorem k_40 : (Cond.selects RX12 yX12_bite yX12_bite) ∈ tbl := tbl_m 40 (by decide +kernel) (by decide +kernel)
theorem k_41 : (Cond.selects RX12 yX12_stands yX12_stands) ∈ tbl := tbl_m 41 (by decide +kernel) (by decide +kernel)
theorem k_42 : (Cond.selects RX12 yX12_settle yX12_settle) ∈ tbl := tbl_m 42 (by decide +kernel) (by decide +kernel)
theorem k_43 : (Cond.selects RX12 yX12_stirs yX12_stirs) ∈ tbl := tbl_m 43 (by decide +kernel) (by decide +kernel)
theorem k_44 : (Cond.selects RX12 yX12_shaken yX12_shaken) ∈ tbl := tbl_m 44 (by decide +kernel) (by decide +kernel)
theorem k_45 : (Cond.selects RX12 yX12_loses yX12_loses) ∈ tbl := tbl_m 45 (by decide +kernel) (by decide +kernel)
theorem k_46 : (Cond.selects RX12 yX12_swaps yX12_swaps) ∈ tbl := tbl_m 46 (by decide +kernel) (by decide +kernel)
theorem k_47 : (Cond.selects RX12 yX12_change1 yX12_change1) ∈ tbl := tbl_m 47 (by decide +kernel) (by decide +kernel)
theorem k_48 : (Cond.selects RX12 yX12_standsAt yX12_standsAt) ∈ tbl := tbl_m 48 (by decide +kernel) (by decide +kernel)
theorem k_49 : (Cond.selects RX12 yX12_go yX12_go) ∈ tbl := tbl_m 49 (by decide +kernel) (by decide +kernel)
theorem k_50 : (Cond.selects RX12 yX12_minute yX12_minute) ∈ tbl := tbl_m 50 (by decide +kernel) (by decide +kernel)
theorem k_51 : (Cond.selects RX12 yX12_flyAt yX12_flyAt) ∈ tbl := tbl_m 51 (by decide +kernel) (by decide +kernel)
theorem k_52 : (Cond.selects RX12 yX12_pokes yX12_pokes) ∈ tbl := tbl_m 52 (by decide +kernel) (by decide +kernel)
theorem k_53 : (Cond.selects RX12 yX12_draw yX12_draw) ∈ tbl := tbl_m 53 (by decide +kernel) (by decide +kernel)
theorem k_54 : (Cond.selects RX12 yX12_layDown yX12_layDown) ∈ tbl := tbl_m 54 (by decide +kernel) (by decide +kernel)
theorem k_55 : (Cond.selects RX12 yX12_layBack yX12_layBack) ∈ tbl := tbl_m 55 (by decide +kernel) (by decide +kernel)
theorem k_56 : (Cond.selects RX12 yX12_howMany yX12_howMany) ∈ tbl := tbl_m 56 (by decide +kernel) (by decide +kernel)
theorem k_57 : (Cond.selects RX12 yX12_lastAll yX12_lastAll) ∈ tbl := tbl_m 57 (by decide +kernel) (by decide +kernel)
theorem k_58 : (Cond.selects RX12 yX12_standSet yX12_standSet) ∈ tbl := tbl_m 58 (by decide +kernel) (by decide +kernel)
theorem k_59 : (Cond.selects RX12 yX12_kindNow yX12_kindNow) ∈ tbl := tbl_m 59 (by decide +kernel) (by decide +kernel)
theorem k_60 : (Cond.selects RX12 yX12_holdsAs yX12_holdsAs) ∈ tbl := tbl_m 60 (by decide +kernel) (by decide +kernel)
theorem k_61 : (Cond.selects RX12 yX12_begins yX12_begins) ∈ tbl := tbl_m 61 (by decide +kernel) (by decide +kernel)
theorem k_62 : (Cond.selects RX12 yX12_leansAs yX12_leansAs) ∈ tbl := tbl_m 62 (by decide +kernel) (by decide +kernel)
theorem k_63 : (Cond.selects RX12 yX12_mNow yX12_mNow) ∈ tbl := tbl_m 63 (by decide +kernel) (by decide +kernel)
theorem k_64 : (Cond.selects RX12 yX12_swaysAs yX12_swaysAs) ∈ tbl := tbl_m 64 (by decide +kernel) (by decide +kernel)
theorem k_65 : (Cond.selects RX12 yX12_partsAs yX12_partsAs) ∈ tbl := tbl_m 65 (by decide +kernel) (by decide +kernel)
theorem k_66 : (Cond.selects RX12 yX12_lacks yX12_lacks) ∈ tbl := tbl_m 66 (by decide +kernel) (by decide +kernel)
theorem k_67 : (Cond.initialized RL) ∈ tbl := tbl_m 67 (by decide +kernel) (by decide +kernel)
theorem k_68 : (Cond.initialized RX11) ∈ tbl := tbl_m 68 (by decide +kernel) (by decide +kernel)
theorem k_69 : (Cond.initialized RX7) ∈ tbl := tbl_m 69 (by decide +kernel) (by decide +kernel)
theorem k_70 : (Cond.initialized RX0) ∈ tbl := tbl_m 70 (by decide +kernel) (by decide +kernel)
theorem k_71 : (Cond.initialized RX2) ∈ tbl := tbl_m 71 (by decide +kernel) (by decide +kernel)
theorem k_72 : (Cond.initialized RX8) ∈ tbl := tbl_m 72 (by decide +kernel) (by decide +kernel)
theorem k_73 : (Cond.initialized RX3) ∈ tbl := tbl_m 73 (by decide +kernel) (by decide +kernel)
theorem k_74 : (Cond.initialized RX10) ∈ tbl := tbl_m 74 (by decide +kernel) (by decide +kernel)
theorem k_75 : (Cond.initialized RX9) ∈ tbl := tbl_m 75 (by decide +kernel) (by decide +kernel)
theorem k_76 : (Cond.initialized RX5) ∈ tbl := tbl_m 76 (by decide +kernel) (by decide +kernel)
theorem k_77 : (Cond.initialized RX1) ∈ tbl := tbl_m 77 (by decide +kernel) (by decide +kernel)
theorem k_78 : (Cond.initialized RX4) ∈ tbl := tbl_m 78 (by decide +kernel) (by decide +kernel)
theorem k_79 : (Cond.initialized RX6) ∈ tbl := tbl_m 79 (by decide +kernel) (by decide +kernel)
theorem k_80 : (Cond.initialized RX12) ∈ tbl := tbl_m 80 (by decide +kernel) (by decide +kernel)
theorem k_81 : (Cond.initialized "java/lang/Math") ∈ tbl := tbl_m 81 (by decide +kernel) (by decide +kernel)
theorem k_82 : (Cond.initialized "java/lang/System") ∈ tbl := tbl_m 82 (by decide +kernel) (by decide +kernel)
theorem k_83 : (Cond.initialized "java/lang/Integer") ∈ tbl := tbl_m 83 (by decide +kernel) (by decide +kernel)
theorem k_84 : (Cond.classLink RL 7 RX11) ∈ tbl := tbl_m 84 (by decide +kernel) (by decide +kernel)
theorem k_85 : (Cond.instantiable RX11 10) ∈ tbl := tbl_m 85 (by decide +kernel) (by decide +kernel)
theorem k_86 : (Cond.methodLink RL 9 yX11_init) ∈ tbl := tbl_m 86 (by decide +kernel) (by decide +kernel)
theorem k_87 : (Cond.instanceMethod yX11_init) ∈ tbl := tbl_m 87 (by decide +kernel) (by decide +kernel)
theorem k_88 : (Cond.code yX11_init cX11_init 3 none) ∈ tbl := tbl_m 88 (by decide +kernel) (by decide +kernel)
theorem k_89 : (Cond.methodLink RX11 1 Lib.objectInit) ∈ tbl := tbl_m 89 (by decide +kernel) (by decide +kernel)
theorem k_90 : (Cond.instanceMethod Lib.objectInit) ∈ tbl := tbl_m 90 (by decide +kernel) (by decide +kernel)
theorem k_91 : (Cond.code Lib.objectInit ⟨#[0xb1]⟩ 1 none) ∈ tbl := tbl_m 91 (by decide +kernel) (by decide +kernel)
theorem k_92 : (Cond.classLink RX11 7 RX7) ∈ tbl := tbl_m 92 (by decide +kernel) (by decide +kernel)
theorem k_94 : (Cond.instantiable RX7 0) ∈ tbl := tbl_m 94 (by decide +kernel) (by decide +kernel)
theorem k_96 : (Cond.instanceMethod yX7_init) ∈ tbl := tbl_m 96 (by decide +kernel) (by decide +kernel)
theorem k_97 : (Cond.code yX7_init cX7_init 1 none) ∈ tbl := tbl_m 97 (by decide +kernel) (by decide +kernel)
theorem k_98 : (Cond.methodLink RX7 1 Lib.objectInit) ∈ tbl := tbl_m 98 (by decide +kernel) (by decide +kernel)
theorem k_99 : (Cond.superclass RX7 "java/lang/Object") ∈ tbl := tbl_m 99 (by decide +kernel) (by decide +kernel)
theorem k_100 : (Cond.classLink RX11 10 RX0) ∈ tbl := tbl_m 100 (by decide +kernel) (by decide +kernel)
theorem k_101 : (Cond.instantiable RX0 0) ∈ tbl := tbl_m 101 (by decide +kernel) (by decide +kernel)
theorem k_103 : (Cond.instanceMethod yX0_init) ∈ tbl := tbl_m 103 (by decide +kernel) (by decide +kernel)
theorem k_104 : (Cond.code yX0_init cX0_init 1 none) ∈ tbl := tbl_m 104 (by decide +kernel) (by decide +kernel)
theorem k_106 : (Cond.superclass RX0 RX7) ∈ tbl := tbl_m 106 (by decide +kernel) (by decide +kernel)
theorem k_107 : (Cond.classLink RX11 13 RX2) ∈ tbl := tbl_m 107 (by decide +kernel) (by decide +kernel)
theorem k_108 : (Cond.instantiable RX2 0) ∈ tbl := tbl_m 108 (by decide +kernel) (by decide +kernel)
theorem k_110 : (Cond.instanceMethod yX2_init) ∈ tbl := tbl_m 110 (by decide +kernel) (by decide +kernel)
theorem k_111 : (Cond.code yX2_init cX2_init 1 none) ∈ tbl := tbl_m 111 (by decide +kernel) (by decide +kernel)
theorem k_113 : (Cond.superclass RX2 RX7) ∈ tbl := tbl_m 113 (by decide +kernel) (by decide +kernel)
theorem k_114 : (Cond.classLink RX11 16 RX8) ∈ tbl := tbl_m 114 (by decide +kernel) (by decide +kernel)
theorem k_115 : (Cond.instantiable RX8 0) ∈ tbl := tbl_m 115 (by decide +kernel) (by decide +kernel)
theorem k_117 : (Cond.instanceMethod yX8_init) ∈ tbl := tbl_m 117 (by decide +kernel) (by decide +kernel)
theorem k_118 : (Cond.code yX8_init cX8_init 1 none) ∈ tbl := tbl_m 118 (by decide +kernel) (by decide +kernel)
theorem k_120 : (Cond.superclass RX8 RX7) ∈ tbl := tbl_m 120 (by decide +kernel) (by decide +kernel)
theorem k_121 : (Cond.classLink RX11 19 RX3) ∈ tbl := tbl_m 121 (by decide +kernel) (by decide +kernel)
theorem k_122 : (Cond.instantiable RX3 0) ∈ tbl := tbl_m 122 (by decide +kernel) (by decide +kernel)
theorem k_124 : (Cond.instanceMethod yX3_init) ∈ tbl := tbl_m 124 (by decide +kernel) (by decide +kernel)
theorem k_125 : (Cond.code yX3_init cX3_init 1 none) ∈ tbl := tbl_m 125 (by decide +kernel) (by decide +kernel)
theorem k_127 : (Cond.superclass RX3 RX0) ∈ tbl := tbl_m 127 (by decide +kernel) (by decide +kernel)
theorem k_128 : (Cond.classLink RX11 22 RX10) ∈ tbl := tbl_m 128 (by decide +kernel) (by decide +kernel)
theorem k_129 : (Cond.instantiable RX10 0) ∈ tbl := tbl_m 129 (by decide +kernel) (by decide +kernel)
theorem k_131 : (Cond.instanceMethod yX10_init) ∈ tbl := tbl_m 131 (by decide +kernel) (by decide +kernel)
theorem k_132 : (Cond.code yX10_init cX10_init 1 none) ∈ tbl := tbl_m 132 (by decide +kernel) (by decide +kernel)
theorem k_134 : (Cond.superclass RX10 RX2) ∈ tbl := tbl_m 134 (by decide +kernel) (by decide +kernel)
theorem k_135 : (Cond.classLink RX11 25 RX9) ∈ tbl := tbl_m 135 (by decide +kernel) (by decide +kernel)
theorem k_136 : (Cond.instantiable RX9 0) ∈ tbl := tbl_m 136 (by decide +kernel) (by decide +kernel)
theorem k_138 : (Cond.instanceMethod yX9_init) ∈ tbl := tbl_m 138 (by decide +kernel) (by decide +kernel)
theorem k_139 : (Cond.code yX9_init cX9_init 1 none) ∈ tbl := tbl_m 139 (by decide +kernel) (by decide +kernel)
theorem k_141 : (Cond.superclass RX9 RX7) ∈ tbl := tbl_m 141 (by decide +kernel) (by decide +kernel)
theorem k_142 : (Cond.classLink RX11 28 RX5) ∈ tbl := tbl_m 142 (by decide +kernel) (by decide +kernel)
theorem k_143 : (Cond.instantiable RX5 8) ∈ tbl := tbl_m 143 (by decide +kernel) (by decide +kernel)
theorem k_144 : (Cond.methodLink RX11 30 yX5_init) ∈ tbl := tbl_m 144 (by decide +kernel) (by decide +kernel)
theorem k_145 : (Cond.instanceMethod yX5_init) ∈ tbl := tbl_m 145 (by decide +kernel) (by decide +kernel)
theorem k_146 : (Cond.code yX5_init cX5_init 2 none) ∈ tbl := tbl_m 146 (by decide +kernel) (by decide +kernel)
theorem k_147 : (Cond.methodLink RX5 3 Lib.objectInit) ∈ tbl := tbl_m 147 (by decide +kernel) (by decide +kernel)
theorem k_148 : (Cond.classLink RX5 9 RX1) ∈ tbl := tbl_m 148 (by decide +kernel) (by decide +kernel)
theorem k_149 : (Cond.instantiable RX1 9) ∈ tbl := tbl_m 149 (by decide +kernel) (by decide +kernel)
theorem k_150 : (Cond.methodLink RX5 11 yX1_init) ∈ tbl := tbl_m 150 (by decide +kernel) (by decide +kernel)
theorem k_151 : (Cond.instanceMethod yX1_init) ∈ tbl := tbl_m 151 (by decide +kernel) (by decide +kernel)
theorem k_152 : (Cond.code yX1_init cX1_init 2 none) ∈ tbl := tbl_m 152 (by decide +kernel) (by decide +kernel)
theorem k_153 : (Cond.methodLink RX1 3 Lib.objectInit) ∈ tbl := tbl_m 153 (by decide +kernel) (by decide +kernel)
theorem k_154 : (Cond.fieldLink RX1 9 "StandStill$Law" "own" "C") ∈ tbl := tbl_m 154 (by decide +kernel) (by decide +kernel)
theorem k_155 : (Cond.fieldLink RX1 15 "StandStill$Law" "stack" "[I") ∈ tbl := tbl_m 155 (by decide +kernel) (by decide +kernel)
theorem k_156 : (Cond.fieldLink RX1 19 "StandStill$Law" "code" "[I") ∈ tbl := tbl_m 156 (by decide +kernel) (by decide +kernel)
theorem k_157 : (Cond.fieldLink RX1 31 "StandStill$Law" "length" "I") ∈ tbl := tbl_m 157 (by decide +kernel) (by decide +kernel)
theorem k_158 : (Cond.fieldLink RX1 22 "StandStill$Law" "draft" "[I") ∈ tbl := tbl_m 158 (by decide +kernel) (by decide +kernel)
theorem k_159 : (Cond.fieldLink RX1 55 "StandStill$Law" "drafted" "I") ∈ tbl := tbl_m 159 (by decide +kernel) (by decide +kernel)
theorem k_160 : (Cond.fieldLink RX1 39 "StandStill$Law" "tape" "[B") ∈ tbl := tbl_m 160 (by decide +kernel) (by decide +kernel)
theorem k_161 : (Cond.fieldLink RX1 49 "StandStill$Law" "size" "I") ∈ tbl := tbl_m 161 (by decide +kernel) (by decide +kernel)
theorem k_162 : (Cond.fieldLink RX1 52 "StandStill$Law" "place" "I") ∈ tbl := tbl_m 162 (by decide +kernel) (by decide +kernel)
theorem k_181 : (Cond.superclass RX1 "java/lang/Object") ∈ tbl := tbl_m 181 (by decide +kernel) (by decide +kernel)
theorem k_182 : (Cond.arrayClass .int) ∈ tbl := tbl_m 182 (by decide +kernel) (by decide +kernel)
theorem k_183 : (Cond.classLink RX5 23 RX4) ∈ tbl := tbl_m 183 (by decide +kernel) (by decide +kernel)
theorem k_184 : (Cond.instantiable RX4 10) ∈ tbl := tbl_m 184 (by decide +kernel) (by decide +kernel)
theorem k_185 : (Cond.methodLink RX5 25 yX4_init) ∈ tbl := tbl_m 185 (by decide +kernel) (by decide +kernel)
theorem k_186 : (Cond.instanceMethod yX4_init) ∈ tbl := tbl_m 186 (by decide +kernel) (by decide +kernel)
theorem k_187 : (Cond.code yX4_init cX4_init 5 none) ∈ tbl := tbl_m 187 (by decide +kernel) (by decide +kernel)
theorem k_188 : (Cond.methodLink RX4 3 Lib.objectInit) ∈ tbl := tbl_m 188 (by decide +kernel) (by decide +kernel)
theorem k_189 : (Cond.fieldLink RX4 22 "StandStill$Row" "kind" "[I") ∈ tbl := tbl_m 189 (by decide +kernel) (by decide +kernel)
theorem k_190 : (Cond.fieldLink RX11 103 "StandStill$Row" "kind" "[I") ∈ tbl := tbl_m 190 (by decide +kernel) (by decide +kernel)
theorem k_191 : (Cond.fieldLink RX4 26 "StandStill$Row" "m" "[I") ∈ tbl := tbl_m 191 (by decide +kernel) (by decide +kernel)
theorem k_192 : (Cond.fieldLink RX2 11 "StandStill$Row" "m" "[I") ∈ tbl := tbl_m 192 (by decide +kernel) (by decide +kernel)
theorem k_193 : (Cond.fieldLink RX3 11 "StandStill$Row" "m" "[I") ∈ tbl := tbl_m 193 (by decide +kernel) (by decide +kernel)
theorem k_194 : (Cond.fieldLink RX9 30 "StandStill$Row" "m" "[I") ∈ tbl := tbl_m 194 (by decide +kernel) (by decide +kernel)
theorem k_195 : (Cond.fieldLink RX11 106 "StandStill$Row" "m" "[I") ∈ tbl := tbl_m 195 (by decide +kernel) (by decide +kernel)
theorem k_196 : (Cond.fieldLink RX4 29 "StandStill$Row" "post" "[I") ∈ tbl := tbl_m 196 (by decide +kernel) (by decide +kernel)
theorem k_197 : (Cond.fieldLink RX11 141 "StandStill$Row" "post" "[I") ∈ tbl := tbl_m 197 (by decide +kernel) (by decide +kernel)
theorem k_198 : (Cond.fieldLink RX4 32 "StandStill$Row" "left" "[I") ∈ tbl := tbl_m 198 (by decide +kernel) (by decide +kernel)
theorem k_199 : (Cond.fieldLink RX9 26 "StandStill$Row" "left" "[I") ∈ tbl := tbl_m 199 (by decide +kernel) (by decide +kernel)
theorem k_200 : (Cond.fieldLink RX11 130 "StandStill$Row" "left" "[I") ∈ tbl := tbl_m 200 (by decide +kernel) (by decide +kernel)
theorem k_201 : (Cond.fieldLink RX4 35 "StandStill$Row" "out" "[I") ∈ tbl := tbl_m 201 (by decide +kernel) (by decide +kernel)
theorem k_202 : (Cond.fieldLink RX11 144 "StandStill$Row" "out" "[I") ∈ tbl := tbl_m 202 (by decide +kernel) (by decide +kernel)
theorem k_203 : (Cond.fieldLink RX4 38 "StandStill$Row" "sun" "I") ∈ tbl := tbl_m 203 (by decide +kernel) (by decide +kernel)
theorem k_204 : (Cond.fieldLink RX7 7 "StandStill$Row" "sun" "I") ∈ tbl := tbl_m 204 (by decide +kernel) (by decide +kernel)
theorem k_205 : (Cond.fieldLink RX9 22 "StandStill$Row" "sun" "I") ∈ tbl := tbl_m 205 (by decide +kernel) (by decide +kernel)
theorem k_206 : (Cond.fieldLink RX11 147 "StandStill$Row" "sun" "I") ∈ tbl := tbl_m 206 (by decide +kernel) (by decide +kernel)
theorem k_207 : (Cond.fieldLink RX4 48 "StandStill$Row" "minute" "I") ∈ tbl := tbl_m 207 (by decide +kernel) (by decide +kernel)
theorem k_208 : (Cond.fieldLink RX11 180 "StandStill$Row" "minute" "I") ∈ tbl := tbl_m 208 (by decide +kernel) (by decide +kernel)
theorem k_209 : (Cond.fieldLink RX4 15 "StandStill$Row" "spending" "LStandStill$Law;") ∈ tbl := tbl_m 209 (by decide +kernel) (by decide +kernel)
theorem k_210 : (Cond.fieldLink RX9 7 "StandStill$Row" "spending" "LStandStill$Law;") ∈ tbl := tbl_m 210 (by decide +kernel) (by decide +kernel)
theorem k_211 : (Cond.fieldLink RX4 19 "StandStill$Row" "shock" "LStandStill$Law;") ∈ tbl := tbl_m 211 (by decide +kernel) (by decide +kernel)
theorem k_212 : (Cond.fieldLink RX4 9 "StandStill$Row" "kinds" "[LStandStill$Stander;") ∈ tbl := tbl_m 212 (by decide +kernel) (by decide +kernel)
theorem k_233 : (Cond.superclass RX4 "java/lang/Object") ∈ tbl := tbl_m 233 (by decide +kernel) (by decide +kernel)
theorem k_234 : (Cond.fieldLink RX5 14 "StandStill$Scene" "spending" "LStandStill$Law;") ∈ tbl := tbl_m 234 (by decide +kernel) (by decide +kernel)
theorem k_235 : (Cond.fieldLink RX11 44 "StandStill$Scene" "spending" "LStandStill$Law;") ∈ tbl := tbl_m 235 (by decide +kernel) (by decide +kernel)
theorem k_236 : (Cond.fieldLink RX5 20 "StandStill$Scene" "shock" "LStandStill$Law;") ∈ tbl := tbl_m 236 (by decide +kernel) (by decide +kernel)
theorem k_237 : (Cond.fieldLink RX11 48 "StandStill$Scene" "shock" "LStandStill$Law;") ∈ tbl := tbl_m 237 (by decide +kernel) (by decide +kernel)
theorem k_238 : (Cond.fieldLink RX5 28 "StandStill$Scene" "row" "LStandStill$Row;") ∈ tbl := tbl_m 238 (by decide +kernel) (by decide +kernel)
theorem k_239 : (Cond.fieldLink RX11 100 "StandStill$Scene" "row" "LStandStill$Row;") ∈ tbl := tbl_m 239 (by decide +kernel) (by decide +kernel)
theorem k_240 : (Cond.fieldLink RX5 32 "StandStill$Scene" "tape" "[B") ∈ tbl := tbl_m 240 (by decide +kernel) (by decide +kernel)
theorem k_241 : (Cond.fieldLink RX11 159 "StandStill$Scene" "tape" "[B") ∈ tbl := tbl_m 241 (by decide +kernel) (by decide +kernel)
theorem k_242 : (Cond.fieldLink RX5 36 "StandStill$Scene" "waits" "[I") ∈ tbl := tbl_m 242 (by decide +kernel) (by decide +kernel)
theorem k_243 : (Cond.fieldLink RX11 291 "StandStill$Scene" "waits" "[I") ∈ tbl := tbl_m 243 (by decide +kernel) (by decide +kernel)
theorem k_244 : (Cond.fieldLink RX5 57 "StandStill$Scene" "fed" "I") ∈ tbl := tbl_m 244 (by decide +kernel) (by decide +kernel)
theorem k_245 : (Cond.fieldLink RX11 156 "StandStill$Scene" "fed" "I") ∈ tbl := tbl_m 245 (by decide +kernel) (by decide +kernel)
theorem k_246 : (Cond.fieldLink RX5 60 "StandStill$Scene" "waiting" "I") ∈ tbl := tbl_m 246 (by decide +kernel) (by decide +kernel)
theorem k_247 : (Cond.fieldLink RX11 288 "StandStill$Scene" "waiting" "I") ∈ tbl := tbl_m 247 (by decide +kernel) (by decide +kernel)
theorem k_248 : (Cond.fieldLink RX5 40 "StandStill$Scene" "z" "I") ∈ tbl := tbl_m 248 (by decide +kernel) (by decide +kernel)
theorem k_249 : (Cond.fieldLink RX11 195 "StandStill$Scene" "z" "I") ∈ tbl := tbl_m 249 (by decide +kernel) (by decide +kernel)
theorem k_266 : (Cond.superclass RX5 "java/lang/Object") ∈ tbl := tbl_m 266 (by decide +kernel) (by decide +kernel)
theorem k_267 : (Cond.arrayClass .byte) ∈ tbl := tbl_m 267 (by decide +kernel) (by decide +kernel)
theorem k_268 : (Cond.classLink RX11 42 RX4) ∈ tbl := tbl_m 268 (by decide +kernel) (by decide +kernel)
theorem k_269 : (Cond.methodLink RX11 51 yX4_init) ∈ tbl := tbl_m 269 (by decide +kernel) (by decide +kernel)
theorem k_271 : (Cond.classLink RX11 62 RX6) ∈ tbl := tbl_m 271 (by decide +kernel) (by decide +kernel)
theorem k_272 : (Cond.instantiable RX6 7) ∈ tbl := tbl_m 272 (by decide +kernel) (by decide +kernel)
theorem k_273 : (Cond.methodLink RX11 64 yX6_init) ∈ tbl := tbl_m 273 (by decide +kernel) (by decide +kernel)
theorem k_274 : (Cond.instanceMethod yX6_init) ∈ tbl := tbl_m 274 (by decide +kernel) (by decide +kernel)
theorem k_275 : (Cond.code yX6_init cX6_init 1 none) ∈ tbl := tbl_m 275 (by decide +kernel) (by decide +kernel)
theorem k_276 : (Cond.methodLink RX6 3 Lib.objectInit) ∈ tbl := tbl_m 276 (by decide +kernel) (by decide +kernel)
theorem k_277 : (Cond.fieldLink RX6 18 "StandStill$Speaker" "k" "I") ∈ tbl := tbl_m 277 (by decide +kernel) (by decide +kernel)
theorem k_278 : (Cond.fieldLink RX7 19 "StandStill$Speaker" "k" "I") ∈ tbl := tbl_m 278 (by decide +kernel) (by decide +kernel)
theorem k_279 : (Cond.fieldLink RX3 34 "StandStill$Speaker" "k" "I") ∈ tbl := tbl_m 279 (by decide +kernel) (by decide +kernel)
theorem k_280 : (Cond.fieldLink RX6 22 "StandStill$Speaker" "m" "I") ∈ tbl := tbl_m 280 (by decide +kernel) (by decide +kernel)
theorem k_281 : (Cond.fieldLink RX9 47 "StandStill$Speaker" "m" "I") ∈ tbl := tbl_m 281 (by decide +kernel) (by decide +kernel)
theorem k_282 : (Cond.fieldLink RX7 31 "StandStill$Speaker" "m" "I") ∈ tbl := tbl_m 282 (by decide +kernel) (by decide +kernel)
theorem k_283 : (Cond.fieldLink RX6 25 "StandStill$Speaker" "parted" "Z") ∈ tbl := tbl_m 283 (by decide +kernel) (by decide +kernel)
theorem k_284 : (Cond.fieldLink RX0 20 "StandStill$Speaker" "parted" "Z") ∈ tbl := tbl_m 284 (by decide +kernel) (by decide +kernel)
theorem k_285 : (Cond.fieldLink RX7 34 "StandStill$Speaker" "parted" "Z") ∈ tbl := tbl_m 285 (by decide +kernel) (by decide +kernel)
theorem k_286 : (Cond.fieldLink RX11 254 "StandStill$Speaker" "parted" "Z") ∈ tbl := tbl_m 286 (by decide +kernel) (by decide +kernel)
theorem k_287 : (Cond.fieldLink RX6 38 "StandStill$Speaker" "traced" "I") ∈ tbl := tbl_m 287 (by decide +kernel) (by decide +kernel)
theorem k_288 : (Cond.fieldLink RX11 261 "StandStill$Speaker" "traced" "I") ∈ tbl := tbl_m 288 (by decide +kernel) (by decide +kernel)
theorem k_289 : (Cond.fieldLink RX6 9 "StandStill$Speaker" "trace" "[I") ∈ tbl := tbl_m 289 (by decide +kernel) (by decide +kernel)
theorem k_290 : (Cond.fieldLink RX11 264 "StandStill$Speaker" "trace" "[I") ∈ tbl := tbl_m 290 (by decide +kernel) (by decide +kernel)
theorem k_291 : (Cond.fieldLink RX6 15 "StandStill$Speaker" "begun" "[I") ∈ tbl := tbl_m 291 (by decide +kernel) (by decide +kernel)
theorem k_292 : (Cond.fieldLink RX6 29 "StandStill$Speaker" "beginnings" "I") ∈ tbl := tbl_m 292 (by decide +kernel) (by decide +kernel)
theorem k_307 : (Cond.superclass RX6 "java/lang/Object") ∈ tbl := tbl_m 307 (by decide +kernel) (by decide +kernel)
theorem k_308 : (Cond.classLink RX11 69 "[[I") ∈ tbl := tbl_m 308 (by decide +kernel) (by decide +kernel)
theorem k_310 : (Cond.fieldLink RX11 33 "StandStill" "now" "LStandStill$Scene;") ∈ tbl := tbl_m 310 (by decide +kernel) (by decide +kernel)
theorem k_311 : (Cond.fieldLink RX11 39 "StandStill" "kept" "LStandStill$Scene;") ∈ tbl := tbl_m 311 (by decide +kernel) (by decide +kernel)
theorem k_312 : (Cond.fieldLink RX11 54 "StandStill" "ahead" "LStandStill$Row;") ∈ tbl := tbl_m 312 (by decide +kernel) (by decide +kernel)
theorem k_313 : (Cond.fieldLink RX11 58 "StandStill" "steps" "[LStandStill$Row;") ∈ tbl := tbl_m 313 (by decide +kernel) (by decide +kernel)
theorem k_314 : (Cond.fieldLink RX11 65 "StandStill" "speaker" "LStandStill$Speaker;") ∈ tbl := tbl_m 314 (by decide +kernel) (by decide +kernel)
theorem k_315 : (Cond.fieldLink RX11 71 "StandStill" "sheets" "[[I") ∈ tbl := tbl_m 315 (by decide +kernel) (by decide +kernel)
theorem k_316 : (Cond.fieldLink RX11 74 "StandStill" "bitsOf" "[I") ∈ tbl := tbl_m 316 (by decide +kernel) (by decide +kernel)
theorem k_317 : (Cond.fieldLink RX11 78 "StandStill" "sizeOf" "[I") ∈ tbl := tbl_m 317 (by decide +kernel) (by decide +kernel)
theorem k_318 : (Cond.fieldLink RX11 81 "StandStill" "errors" "[I") ∈ tbl := tbl_m 318 (by decide +kernel) (by decide +kernel)
theorem k_319 : (Cond.fieldLink RX11 84 "StandStill" "images" "I") ∈ tbl := tbl_m 319 (by decide +kernel) (by decide +kernel)
theorem k_340 : (Cond.superclass RX11 "java/lang/Object") ∈ tbl := tbl_m 340 (by decide +kernel) (by decide +kernel)
theorem k_341 : (Cond.methodLink RL 13 yX11_stander) ∈ tbl := tbl_m 341 (by decide +kernel) (by decide +kernel)
theorem k_342 : (Cond.instanceMethod yX11_stander) ∈ tbl := tbl_m 342 (by decide +kernel) (by decide +kernel)
theorem k_343 : (Cond.selects RX11 yX11_stander yX11_stander) ∈ tbl := tbl_m 343 (by decide +kernel) (by decide +kernel)
theorem k_344 : (Cond.code yX11_stander cX11_stander 4 (some (.int))) ∈ tbl := tbl_m 344 (by decide +kernel) (by decide +kernel)
theorem k_345 : (Cond.methodLink RX11 88 yX11_isStander) ∈ tbl := tbl_m 345 (by decide +kernel) (by decide +kernel)
theorem k_346 : (Cond.static yX11_isStander) ∈ tbl := tbl_m 346 (by decide +kernel) (by decide +kernel)
theorem k_347 : (Cond.code yX11_isStander cX11_isStander 1 (some (.boolean))) ∈ tbl := tbl_m 347 (by decide +kernel) (by decide +kernel)
theorem k_348 : (Cond.methodLink RX11 92 yX11_within) ∈ tbl := tbl_m 348 (by decide +kernel) (by decide +kernel)
theorem k_349 : (Cond.static yX11_within) ∈ tbl := tbl_m 349 (by decide +kernel) (by decide +kernel)
theorem k_350 : (Cond.code yX11_within cX11_within 3 (some (.boolean))) ∈ tbl := tbl_m 350 (by decide +kernel) (by decide +kernel)
theorem k_351 : (Cond.methodLink RX11 96 yX11_fails) ∈ tbl := tbl_m 351 (by decide +kernel) (by decide +kernel)
theorem k_353 : (Cond.instanceMethod yX11_fails) ∈ tbl := tbl_m 353 (by decide +kernel) (by decide +kernel)
theorem k_354 : (Cond.code yX11_fails cX11_fails 2 (some (.int))) ∈ tbl := tbl_m 354 (by decide +kernel) (by decide +kernel)
theorem k_355 : (Cond.constant RX11 297 (-1000000000)) ∈ tbl := tbl_m 355 (by decide +kernel) (by decide +kernel)
theorem k_356 : (Cond.methodLink RL 18 yX11_standerIs) ∈ tbl := tbl_m 356 (by decide +kernel) (by decide +kernel)
theorem k_357 : (Cond.instanceMethod yX11_standerIs) ∈ tbl := tbl_m 357 (by decide +kernel) (by decide +kernel)
theorem k_358 : (Cond.selects RX11 yX11_standerIs yX11_standerIs) ∈ tbl := tbl_m 358 (by decide +kernel) (by decide +kernel)
theorem k_359 : (Cond.code yX11_standerIs cX11_standerIs 3 (some (.int))) ∈ tbl := tbl_m 359 (by decide +kernel) (by decide +kernel)
theorem k_360 : (Cond.methodLink RX11 109 yX4_spends) ∈ tbl := tbl_m 360 (by decide +kernel) (by decide +kernel)
theorem k_361 : (Cond.instanceMethod yX4_spends) ∈ tbl := tbl_m 361 (by decide +kernel) (by decide +kernel)
theorem k_362 : (Cond.selects RX4 yX4_spends yX4_spends) ∈ tbl := tbl_m 362 (by decide +kernel) (by decide +kernel)
theorem k_363 : (Cond.code yX4_spends cX4_spends 2 (some (.int))) ∈ tbl := tbl_m 363 (by decide +kernel) (by decide +kernel)
theorem k_364 : (Cond.methodLink RX4 51 yX4_kindOf) ∈ tbl := tbl_m 364 (by decide +kernel) (by decide +kernel)
theorem k_365 : (Cond.instanceMethod yX4_kindOf) ∈ tbl := tbl_m 365 (by decide +kernel) (by decide +kernel)
theorem k_366 : (Cond.selects RX4 yX4_kindOf yX4_kindOf) ∈ tbl := tbl_m 366 (by decide +kernel) (by decide +kernel)
theorem k_367 : (Cond.code yX4_kindOf cX4_kindOf 2 (some (.object "StandStill$Stander"))) ∈ tbl := tbl_m 367 (by decide +kernel) (by decide +kernel)
theorem k_368 : (Cond.methodLink RX4 55 yX7_spending) ∈ tbl := tbl_m 368 (by decide +kernel) (by decide +kernel)
theorem k_369 : (Cond.instanceMethod yX7_spending) ∈ tbl := tbl_m 369 (by decide +kernel) (by decide +kernel)
theorem k_370 : (Cond.selects RX7 yX7_spending yX7_spending) ∈ tbl := tbl_m 370 (by decide +kernel) (by decide +kernel)
theorem k_371 : (Cond.sameMethod RX7 RX7 "spending" "(LStandStill$Row;I)I") ∈ tbl := tbl_m 371 (by decide +kernel) (by decide +kernel)
theorem k_372 : (Cond.selects RX0 yX7_spending yX0_spending) ∈ tbl := tbl_m 372 (by decide +kernel) (by decide +kernel)
theorem k_373 : (Cond.instanceMethod yX0_spending) ∈ tbl := tbl_m 373 (by decide +kernel) (by decide +kernel)
theorem k_374 : (Cond.code yX0_spending cX0_spending 3 (some (.int))) ∈ tbl := tbl_m 374 (by decide +kernel) (by decide +kernel)
theorem k_375 : (Cond.selects RX2 yX7_spending yX2_spending) ∈ tbl := tbl_m 375 (by decide +kernel) (by decide +kernel)
theorem k_376 : (Cond.instanceMethod yX2_spending) ∈ tbl := tbl_m 376 (by decide +kernel) (by decide +kernel)
theorem k_377 : (Cond.code yX2_spending cX2_spending 3 (some (.int))) ∈ tbl := tbl_m 377 (by decide +kernel) (by decide +kernel)
theorem k_378 : (Cond.methodLink RX2 7 yX7_spending) ∈ tbl := tbl_m 378 (by decide +kernel) (by decide +kernel)
theorem k_379 : (Cond.selects RX3 yX7_spending yX3_spending) ∈ tbl := tbl_m 379 (by decide +kernel) (by decide +kernel)
theorem k_380 : (Cond.instanceMethod yX3_spending) ∈ tbl := tbl_m 380 (by decide +kernel) (by decide +kernel)
theorem k_381 : (Cond.code yX3_spending cX3_spending 3 (some (.int))) ∈ tbl := tbl_m 381 (by decide +kernel) (by decide +kernel)
theorem k_382 : (Cond.methodLink RX3 7 yX0_spending) ∈ tbl := tbl_m 382 (by decide +kernel) (by decide +kernel)
theorem k_383 : (Cond.selects RX8 yX7_spending yX7_spending) ∈ tbl := tbl_m 383 (by decide +kernel) (by decide +kernel)
theorem k_384 : (Cond.selects RX9 yX7_spending yX9_spending) ∈ tbl := tbl_m 384 (by decide +kernel) (by decide +kernel)
theorem k_385 : (Cond.instanceMethod yX9_spending) ∈ tbl := tbl_m 385 (by decide +kernel) (by decide +kernel)
theorem k_386 : (Cond.code yX9_spending cX9_spending 4 (some (.int))) ∈ tbl := tbl_m 386 (by decide +kernel) (by decide +kernel)
theorem k_387 : (Cond.methodLink RX9 13 yX1_isMissing) ∈ tbl := tbl_m 387 (by decide +kernel) (by decide +kernel)
theorem k_388 : (Cond.instanceMethod yX1_isMissing) ∈ tbl := tbl_m 388 (by decide +kernel) (by decide +kernel)
theorem k_389 : (Cond.selects RX1 yX1_isMissing yX1_isMissing) ∈ tbl := tbl_m 389 (by decide +kernel) (by decide +kernel)
theorem k_390 : (Cond.code yX1_isMissing cX1_isMissing 1 (some (.boolean))) ∈ tbl := tbl_m 390 (by decide +kernel) (by decide +kernel)
theorem k_391 : (Cond.methodLink RX9 19 yX7_spending) ∈ tbl := tbl_m 391 (by decide +kernel) (by decide +kernel)
theorem k_392 : (Cond.methodLink RX9 33 yX1_gives) ∈ tbl := tbl_m 392 (by decide +kernel) (by decide +kernel)
theorem k_393 : (Cond.instanceMethod yX1_gives) ∈ tbl := tbl_m 393 (by decide +kernel) (by decide +kernel)
theorem k_394 : (Cond.selects RX1 yX1_gives yX1_gives) ∈ tbl := tbl_m 394 (by decide +kernel) (by decide +kernel)
theorem k_395 : (Cond.code yX1_gives cX1_gives 7 (some (.int))) ∈ tbl := tbl_m 395 (by decide +kernel) (by decide +kernel)
theorem k_396 : (Cond.methodLink RX1 35 yX1_joined) ∈ tbl := tbl_m 396 (by decide +kernel) (by decide +kernel)
theorem k_397 : (Cond.static yX1_joined) ∈ tbl := tbl_m 397 (by decide +kernel) (by decide +kernel)
theorem k_398 : (Cond.code yX1_joined cX1_joined 3 (some (.int))) ∈ tbl := tbl_m 398 (by decide +kernel) (by decide +kernel)
theorem k_399 : (Cond.selects RX10 yX7_spending yX2_spending) ∈ tbl := tbl_m 399 (by decide +kernel) (by decide +kernel)
theorem k_400 : (Cond.code yX7_spending cX7_spending 3 (some (.int))) ∈ tbl := tbl_m 400 (by decide +kernel) (by decide +kernel)
theorem k_401 : (Cond.methodLink RX4 60 yX4_held) ∈ tbl := tbl_m 401 (by decide +kernel) (by decide +kernel)
theorem k_402 : (Cond.static yX4_held) ∈ tbl := tbl_m 402 (by decide +kernel) (by decide +kernel)
theorem k_403 : (Cond.code yX4_held cX4_held 1 (some (.int))) ∈ tbl := tbl_m 403 (by decide +kernel) (by decide +kernel)
theorem k_404 : (Cond.methodLink RX4 125 Lib.Math.min.name) ∈ tbl := tbl_m 404 (by decide +kernel) (by decide +kernel)
theorem k_405 : (Cond.static Lib.Math.min.name) ∈ tbl := tbl_m 405 (by decide +kernel) (by decide +kernel)
theorem k_406 : (Cond.code Lib.Math.min.name Lib.Math.min.code 2 (some (.int))) ∈ tbl := tbl_m 406 (by decide +kernel) (by decide +kernel)
theorem k_407 : (Cond.methodLink RX4 121 Lib.Math.max.name) ∈ tbl := tbl_m 407 (by decide +kernel) (by decide +kernel)
theorem k_408 : (Cond.static Lib.Math.max.name) ∈ tbl := tbl_m 408 (by decide +kernel) (by decide +kernel)
theorem k_409 : (Cond.code Lib.Math.max.name Lib.Math.max.code 2 (some (.int))) ∈ tbl := tbl_m 409 (by decide +kernel) (by decide +kernel)
theorem k_410 : (Cond.methodLink RX11 112 yX4_bite) ∈ tbl := tbl_m 410 (by decide +kernel) (by decide +kernel)
theorem k_411 : (Cond.instanceMethod yX4_bite) ∈ tbl := tbl_m 411 (by decide +kernel) (by decide +kernel)
theorem k_412 : (Cond.selects RX4 yX4_bite yX4_bite) ∈ tbl := tbl_m 412 (by decide +kernel) (by decide +kernel)
theorem k_413 : (Cond.code yX4_bite cX4_bite 2 (some (.int))) ∈ tbl := tbl_m 413 (by decide +kernel) (by decide +kernel)
theorem k_414 : (Cond.methodLink RX4 64 yX7_biting) ∈ tbl := tbl_m 414 (by decide +kernel) (by decide +kernel)
theorem k_415 : (Cond.instanceMethod yX7_biting) ∈ tbl := tbl_m 415 (by decide +kernel) (by decide +kernel)
theorem k_416 : (Cond.selects RX7 yX7_biting yX7_biting) ∈ tbl := tbl_m 416 (by decide +kernel) (by decide +kernel)
theorem k_417 : (Cond.sameMethod RX7 RX7 "biting" "(I)I") ∈ tbl := tbl_m 417 (by decide +kernel) (by decide +kernel)
theorem k_418 : (Cond.selects RX0 yX7_biting yX0_biting) ∈ tbl := tbl_m 418 (by decide +kernel) (by decide +kernel)
theorem k_419 : (Cond.instanceMethod yX0_biting) ∈ tbl := tbl_m 419 (by decide +kernel) (by decide +kernel)
theorem k_420 : (Cond.code yX0_biting cX0_biting 2 (some (.int))) ∈ tbl := tbl_m 420 (by decide +kernel) (by decide +kernel)
theorem k_421 : (Cond.selects RX2 yX7_biting yX7_biting) ∈ tbl := tbl_m 421 (by decide +kernel) (by decide +kernel)
theorem k_422 : (Cond.selects RX3 yX7_biting yX3_biting) ∈ tbl := tbl_m 422 (by decide +kernel) (by decide +kernel)
theorem k_423 : (Cond.instanceMethod yX3_biting) ∈ tbl := tbl_m 423 (by decide +kernel) (by decide +kernel)
theorem k_424 : (Cond.code yX3_biting cX3_biting 2 (some (.int))) ∈ tbl := tbl_m 424 (by decide +kernel) (by decide +kernel)
theorem k_425 : (Cond.methodLink RX3 17 yX0_biting) ∈ tbl := tbl_m 425 (by decide +kernel) (by decide +kernel)
theorem k_426 : (Cond.selects RX8 yX7_biting yX8_biting) ∈ tbl := tbl_m 426 (by decide +kernel) (by decide +kernel)
theorem k_427 : (Cond.instanceMethod yX8_biting) ∈ tbl := tbl_m 427 (by decide +kernel) (by decide +kernel)
theorem k_428 : (Cond.code yX8_biting cX8_biting 2 (some (.int))) ∈ tbl := tbl_m 428 (by decide +kernel) (by decide +kernel)
theorem k_429 : (Cond.methodLink RX8 7 yX7_biting) ∈ tbl := tbl_m 429 (by decide +kernel) (by decide +kernel)
theorem k_430 : (Cond.selects RX9 yX7_biting yX7_biting) ∈ tbl := tbl_m 430 (by decide +kernel) (by decide +kernel)
theorem k_431 : (Cond.selects RX10 yX7_biting yX10_biting) ∈ tbl := tbl_m 431 (by decide +kernel) (by decide +kernel)
theorem k_432 : (Cond.instanceMethod yX10_biting) ∈ tbl := tbl_m 432 (by decide +kernel) (by decide +kernel)
theorem k_433 : (Cond.code yX10_biting cX10_biting 2 (some (.int))) ∈ tbl := tbl_m 433 (by decide +kernel) (by decide +kernel)
theorem k_434 : (Cond.methodLink RX10 7 ⟨"StandStill$Leaning", "biting", "(I)I"⟩) ∈ tbl := tbl_m 434 (by decide +kernel) (by decide +kernel)
theorem k_435 : (Cond.sameMethod RX2 RX7 "biting" "(I)I") ∈ tbl := tbl_m 435 (by decide +kernel) (by decide +kernel)
theorem k_437 : (Cond.code yX7_biting cX7_biting 2 (some (.int))) ∈ tbl := tbl_m 437 (by decide +kernel) (by decide +kernel)
theorem k_438 : (Cond.methodLink RX11 115 yX4_is) ∈ tbl := tbl_m 438 (by decide +kernel) (by decide +kernel)
theorem k_439 : (Cond.instanceMethod yX4_is) ∈ tbl := tbl_m 439 (by decide +kernel) (by decide +kernel)
theorem k_440 : (Cond.selects RX4 yX4_is yX4_is) ∈ tbl := tbl_m 440 (by decide +kernel) (by decide +kernel)
theorem k_441 : (Cond.code yX4_is cX4_is 3 (some (.int))) ∈ tbl := tbl_m 441 (by decide +kernel) (by decide +kernel)
theorem k_442 : (Cond.methodLink RL 22 yX11_as) ∈ tbl := tbl_m 442 (by decide +kernel) (by decide +kernel)
theorem k_443 : (Cond.instanceMethod yX11_as) ∈ tbl := tbl_m 443 (by decide +kernel) (by decide +kernel)
theorem k_444 : (Cond.selects RX11 yX11_as yX11_as) ∈ tbl := tbl_m 444 (by decide +kernel) (by decide +kernel)
theorem k_445 : (Cond.code yX11_as cX11_as 3 (some (.int))) ∈ tbl := tbl_m 445 (by decide +kernel) (by decide +kernel)
theorem k_446 : (Cond.methodLink RX11 119 yX4_kindOf) ∈ tbl := tbl_m 446 (by decide +kernel) (by decide +kernel)
theorem k_447 : (Cond.methodLink RX11 123 yX11_isOf) ∈ tbl := tbl_m 447 (by decide +kernel) (by decide +kernel)
theorem k_448 : (Cond.static yX11_isOf) ∈ tbl := tbl_m 448 (by decide +kernel) (by decide +kernel)
theorem k_449 : (Cond.code yX11_isOf cX11_isOf 2 (some (.boolean))) ∈ tbl := tbl_m 449 (by decide +kernel) (by decide +kernel)
theorem k_450 : (Cond.methodLink RL 26 yX11_patience) ∈ tbl := tbl_m 450 (by decide +kernel) (by decide +kernel)
theorem k_451 : (Cond.instanceMethod yX11_patience) ∈ tbl := tbl_m 451 (by decide +kernel) (by decide +kernel)
theorem k_452 : (Cond.selects RX11 yX11_patience yX11_patience) ∈ tbl := tbl_m 452 (by decide +kernel) (by decide +kernel)
theorem k_453 : (Cond.code yX11_patience cX11_patience 4 (some (.int))) ∈ tbl := tbl_m 453 (by decide +kernel) (by decide +kernel)
theorem k_454 : (Cond.methodLink RX11 127 yX4_stands) ∈ tbl := tbl_m 454 (by decide +kernel) (by decide +kernel)
theorem k_455 : (Cond.instanceMethod yX4_stands) ∈ tbl := tbl_m 455 (by decide +kernel) (by decide +kernel)
theorem k_456 : (Cond.selects RX4 yX4_stands yX4_stands) ∈ tbl := tbl_m 456 (by decide +kernel) (by decide +kernel)
theorem k_457 : (Cond.code yX4_stands cX4_stands 2 (some (.boolean))) ∈ tbl := tbl_m 457 (by decide +kernel) (by decide +kernel)
theorem k_458 : (Cond.methodLink RX11 133 yX4_settle) ∈ tbl := tbl_m 458 (by decide +kernel) (by decide +kernel)
theorem k_459 : (Cond.instanceMethod yX4_settle) ∈ tbl := tbl_m 459 (by decide +kernel) (by decide +kernel)
theorem k_460 : (Cond.selects RX4 yX4_settle yX4_settle) ∈ tbl := tbl_m 460 (by decide +kernel) (by decide +kernel)
theorem k_461 : (Cond.code yX4_settle cX4_settle 3 (some (.int))) ∈ tbl := tbl_m 461 (by decide +kernel) (by decide +kernel)
theorem k_462 : (Cond.methodLink RX4 99 yX4_leastAtZero) ∈ tbl := tbl_m 462 (by decide +kernel) (by decide +kernel)
theorem k_464 : (Cond.instanceMethod yX4_leastAtZero) ∈ tbl := tbl_m 464 (by decide +kernel) (by decide +kernel)
theorem k_465 : (Cond.code yX4_leastAtZero cX4_leastAtZero 2 (some (.int))) ∈ tbl := tbl_m 465 (by decide +kernel) (by decide +kernel)
theorem k_466 : (Cond.methodLink RX4 67 yX4_stands) ∈ tbl := tbl_m 466 (by decide +kernel) (by decide +kernel)
theorem k_467 : (Cond.methodLink RX4 102 yX4_stir) ∈ tbl := tbl_m 467 (by decide +kernel) (by decide +kernel)
theorem k_469 : (Cond.instanceMethod yX4_stir) ∈ tbl := tbl_m 469 (by decide +kernel) (by decide +kernel)
theorem k_470 : (Cond.code yX4_stir cX4_stir 4 none) ∈ tbl := tbl_m 470 (by decide +kernel) (by decide +kernel)
theorem k_471 : (Cond.methodLink RX4 106 Lib.Math.abs.name) ∈ tbl := tbl_m 471 (by decide +kernel) (by decide +kernel)
theorem k_472 : (Cond.static Lib.Math.abs.name) ∈ tbl := tbl_m 472 (by decide +kernel) (by decide +kernel)
theorem k_473 : (Cond.code Lib.Math.abs.name Lib.Math.abs.code 1 (some (.int))) ∈ tbl := tbl_m 473 (by decide +kernel) (by decide +kernel)
theorem k_474 : (Cond.methodLink RX4 111 yX1_isMissing) ∈ tbl := tbl_m 474 (by decide +kernel) (by decide +kernel)
theorem k_475 : (Cond.methodLink RX4 117 yX1_gives) ∈ tbl := tbl_m 475 (by decide +kernel) (by decide +kernel)
theorem k_476 : (Cond.methodLink RX4 86 yX4_lessen) ∈ tbl := tbl_m 476 (by decide +kernel) (by decide +kernel)
theorem k_478 : (Cond.instanceMethod yX4_lessen) ∈ tbl := tbl_m 478 (by decide +kernel) (by decide +kernel)
theorem k_479 : (Cond.code yX4_lessen cX4_lessen 3 none) ∈ tbl := tbl_m 479 (by decide +kernel) (by decide +kernel)
theorem k_480 : (Cond.methodLink RL 30 yX11_swap) ∈ tbl := tbl_m 480 (by decide +kernel) (by decide +kernel)
theorem k_481 : (Cond.instanceMethod yX11_swap) ∈ tbl := tbl_m 481 (by decide +kernel) (by decide +kernel)
theorem k_482 : (Cond.selects RX11 yX11_swap yX11_swap) ∈ tbl := tbl_m 482 (by decide +kernel) (by decide +kernel)
theorem k_483 : (Cond.code yX11_swap cX11_swap 3 (some (.int))) ∈ tbl := tbl_m 483 (by decide +kernel) (by decide +kernel)
theorem k_484 : (Cond.methodLink RX11 137 yX4_changePosts) ∈ tbl := tbl_m 484 (by decide +kernel) (by decide +kernel)
theorem k_485 : (Cond.instanceMethod yX4_changePosts) ∈ tbl := tbl_m 485 (by decide +kernel) (by decide +kernel)
theorem k_486 : (Cond.selects RX4 yX4_changePosts yX4_changePosts) ∈ tbl := tbl_m 486 (by decide +kernel) (by decide +kernel)
theorem k_487 : (Cond.code yX4_changePosts cX4_changePosts 4 none) ∈ tbl := tbl_m 487 (by decide +kernel) (by decide +kernel)
theorem k_488 : (Cond.methodLink RL 34 yX11_again) ∈ tbl := tbl_m 488 (by decide +kernel) (by decide +kernel)
theorem k_489 : (Cond.instanceMethod yX11_again) ∈ tbl := tbl_m 489 (by decide +kernel) (by decide +kernel)
theorem k_490 : (Cond.selects RX11 yX11_again yX11_again) ∈ tbl := tbl_m 490 (by decide +kernel) (by decide +kernel)
theorem k_491 : (Cond.code yX11_again cX11_again 3 (some (.int))) ∈ tbl := tbl_m 491 (by decide +kernel) (by decide +kernel)
theorem k_492 : (Cond.methodLink RL 38 yX11_sun) ∈ tbl := tbl_m 492 (by decide +kernel) (by decide +kernel)
theorem k_493 : (Cond.instanceMethod yX11_sun) ∈ tbl := tbl_m 493 (by decide +kernel) (by decide +kernel)
theorem k_494 : (Cond.selects RX11 yX11_sun yX11_sun) ∈ tbl := tbl_m 494 (by decide +kernel) (by decide +kernel)
theorem k_495 : (Cond.code yX11_sun cX11_sun 3 (some (.int))) ∈ tbl := tbl_m 495 (by decide +kernel) (by decide +kernel)
theorem k_496 : (Cond.methodLink RL 43 yX11_at) ∈ tbl := tbl_m 496 (by decide +kernel) (by decide +kernel)
theorem k_497 : (Cond.instanceMethod yX11_at) ∈ tbl := tbl_m 497 (by decide +kernel) (by decide +kernel)
theorem k_498 : (Cond.selects RX11 yX11_at yX11_at) ∈ tbl := tbl_m 498 (by decide +kernel) (by decide +kernel)
theorem k_499 : (Cond.code yX11_at cX11_at 2 (some (.int))) ∈ tbl := tbl_m 499 (by decide +kernel) (by decide +kernel)
theorem k_500 : (Cond.methodLink RX11 150 yX11_isPost) ∈ tbl := tbl_m 500 (by decide +kernel) (by decide +kernel)
theorem k_501 : (Cond.static yX11_isPost) ∈ tbl := tbl_m 501 (by decide +kernel) (by decide +kernel)
theorem k_502 : (Cond.code yX11_isPost cX11_isPost 1 (some (.boolean))) ∈ tbl := tbl_m 502 (by decide +kernel) (by decide +kernel)
theorem k_503 : (Cond.methodLink RX11 153 yX4_whoIsAt) ∈ tbl := tbl_m 503 (by decide +kernel) (by decide +kernel)
theorem k_504 : (Cond.instanceMethod yX4_whoIsAt) ∈ tbl := tbl_m 504 (by decide +kernel) (by decide +kernel)
theorem k_505 : (Cond.selects RX4 yX4_whoIsAt yX4_whoIsAt) ∈ tbl := tbl_m 505 (by decide +kernel) (by decide +kernel)
theorem k_506 : (Cond.code yX4_whoIsAt cX4_whoIsAt 3 (some (.int))) ∈ tbl := tbl_m 506 (by decide +kernel) (by decide +kernel)
theorem k_507 : (Cond.methodLink RL 49 yX11_feed) ∈ tbl := tbl_m 507 (by decide +kernel) (by decide +kernel)
theorem k_508 : (Cond.instanceMethod yX11_feed) ∈ tbl := tbl_m 508 (by decide +kernel) (by decide +kernel)
theorem k_509 : (Cond.selects RX11 yX11_feed yX11_feed) ∈ tbl := tbl_m 509 (by decide +kernel) (by decide +kernel)
theorem k_510 : (Cond.code yX11_feed cX11_feed 5 (some (.int))) ∈ tbl := tbl_m 510 (by decide +kernel) (by decide +kernel)
theorem k_511 : (Cond.methodLink RL 54 yX11_text) ∈ tbl := tbl_m 511 (by decide +kernel) (by decide +kernel)
theorem k_512 : (Cond.instanceMethod yX11_text) ∈ tbl := tbl_m 512 (by decide +kernel) (by decide +kernel)
theorem k_513 : (Cond.selects RX11 yX11_text yX11_text) ∈ tbl := tbl_m 513 (by decide +kernel) (by decide +kernel)
theorem k_514 : (Cond.code yX11_text cX11_text 3 (some (.int))) ∈ tbl := tbl_m 514 (by decide +kernel) (by decide +kernel)
theorem k_515 : (Cond.methodLink RX11 163 yX5_lawOf) ∈ tbl := tbl_m 515 (by decide +kernel) (by decide +kernel)
theorem k_516 : (Cond.instanceMethod yX5_lawOf) ∈ tbl := tbl_m 516 (by decide +kernel) (by decide +kernel)
theorem k_517 : (Cond.selects RX5 yX5_lawOf yX5_lawOf) ∈ tbl := tbl_m 517 (by decide +kernel) (by decide +kernel)
theorem k_518 : (Cond.code yX5_lawOf cX5_lawOf 2 (some (.object "StandStill$Law"))) ∈ tbl := tbl_m 518 (by decide +kernel) (by decide +kernel)
theorem k_519 : (Cond.methodLink RX11 167 yX1_read) ∈ tbl := tbl_m 519 (by decide +kernel) (by decide +kernel)
theorem k_520 : (Cond.instanceMethod yX1_read) ∈ tbl := tbl_m 520 (by decide +kernel) (by decide +kernel)
theorem k_521 : (Cond.selects RX1 yX1_read yX1_read) ∈ tbl := tbl_m 521 (by decide +kernel) (by decide +kernel)
theorem k_522 : (Cond.code yX1_read cX1_read 4 (some (.int))) ∈ tbl := tbl_m 522 (by decide +kernel) (by decide +kernel)
theorem k_523 : (Cond.methodLink RX1 43 Lib.Math.min.name) ∈ tbl := tbl_m 523 (by decide +kernel) (by decide +kernel)
theorem k_524 : (Cond.methodLink RX1 58 yX1_readEither) ∈ tbl := tbl_m 524 (by decide +kernel) (by decide +kernel)
theorem k_526 : (Cond.instanceMethod yX1_readEither) ∈ tbl := tbl_m 526 (by decide +kernel) (by decide +kernel)
theorem k_527 : (Cond.code yX1_readEither cX1_readEither 4 (some (.boolean))) ∈ tbl := tbl_m 527 (by decide +kernel) (by decide +kernel)
theorem k_528 : (Cond.methodLink RX1 62 yX1_readBoth) ∈ tbl := tbl_m 528 (by decide +kernel) (by decide +kernel)
theorem k_530 : (Cond.instanceMethod yX1_readBoth) ∈ tbl := tbl_m 530 (by decide +kernel) (by decide +kernel)
theorem k_531 : (Cond.code yX1_readBoth cX1_readBoth 4 (some (.boolean))) ∈ tbl := tbl_m 531 (by decide +kernel) (by decide +kernel)
theorem k_532 : (Cond.methodLink RX1 73 yX1_readCompared) ∈ tbl := tbl_m 532 (by decide +kernel) (by decide +kernel)
theorem k_534 : (Cond.instanceMethod yX1_readCompared) ∈ tbl := tbl_m 534 (by decide +kernel) (by decide +kernel)
theorem k_535 : (Cond.code yX1_readCompared cX1_readCompared 4 (some (.boolean))) ∈ tbl := tbl_m 535 (by decide +kernel) (by decide +kernel)
theorem k_536 : (Cond.methodLink RX1 76 yX1_readSum) ∈ tbl := tbl_m 536 (by decide +kernel) (by decide +kernel)
theorem k_538 : (Cond.instanceMethod yX1_readSum) ∈ tbl := tbl_m 538 (by decide +kernel) (by decide +kernel)
theorem k_539 : (Cond.code yX1_readSum cX1_readSum 5 (some (.boolean))) ∈ tbl := tbl_m 539 (by decide +kernel) (by decide +kernel)
theorem k_540 : (Cond.methodLink RX1 83 yX1_readProduct) ∈ tbl := tbl_m 540 (by decide +kernel) (by decide +kernel)
theorem k_542 : (Cond.instanceMethod yX1_readProduct) ∈ tbl := tbl_m 542 (by decide +kernel) (by decide +kernel)
theorem k_543 : (Cond.code yX1_readProduct cX1_readProduct 5 (some (.boolean))) ∈ tbl := tbl_m 543 (by decide +kernel) (by decide +kernel)
theorem k_544 : (Cond.methodLink RX1 86 yX1_readUnit) ∈ tbl := tbl_m 544 (by decide +kernel) (by decide +kernel)
theorem k_546 : (Cond.instanceMethod yX1_readUnit) ∈ tbl := tbl_m 546 (by decide +kernel) (by decide +kernel)
theorem k_547 : (Cond.code yX1_readUnit cX1_readUnit 3 (some (.boolean))) ∈ tbl := tbl_m 547 (by decide +kernel) (by decide +kernel)
theorem k_548 : (Cond.methodLink RX1 89 yX1_seesDigit) ∈ tbl := tbl_m 548 (by decide +kernel) (by decide +kernel)
theorem k_550 : (Cond.instanceMethod yX1_seesDigit) ∈ tbl := tbl_m 550 (by decide +kernel) (by decide +kernel)
theorem k_551 : (Cond.code yX1_seesDigit cX1_seesDigit 1 (some (.boolean))) ∈ tbl := tbl_m 551 (by decide +kernel) (by decide +kernel)
theorem k_552 : (Cond.methodLink RX1 99 yX1_nextSign) ∈ tbl := tbl_m 552 (by decide +kernel) (by decide +kernel)
theorem k_554 : (Cond.instanceMethod yX1_nextSign) ∈ tbl := tbl_m 554 (by decide +kernel) (by decide +kernel)
theorem k_555 : (Cond.code yX1_nextSign cX1_nextSign 1 (some (.int))) ∈ tbl := tbl_m 555 (by decide +kernel) (by decide +kernel)
theorem k_556 : (Cond.methodLink RX1 93 yX1_readNumber) ∈ tbl := tbl_m 556 (by decide +kernel) (by decide +kernel)
theorem k_558 : (Cond.instanceMethod yX1_readNumber) ∈ tbl := tbl_m 558 (by decide +kernel) (by decide +kernel)
theorem k_559 : (Cond.code yX1_readNumber cX1_readNumber 3 none) ∈ tbl := tbl_m 559 (by decide +kernel) (by decide +kernel)
theorem k_560 : (Cond.methodLink RX1 79 yX1_takeSign) ∈ tbl := tbl_m 560 (by decide +kernel) (by decide +kernel)
theorem k_562 : (Cond.instanceMethod yX1_takeSign) ∈ tbl := tbl_m 562 (by decide +kernel) (by decide +kernel)
theorem k_563 : (Cond.code yX1_takeSign cX1_takeSign 2 (some (.int))) ∈ tbl := tbl_m 563 (by decide +kernel) (by decide +kernel)
theorem k_564 : (Cond.methodLink RX1 69 yX1_write) ∈ tbl := tbl_m 564 (by decide +kernel) (by decide +kernel)
theorem k_566 : (Cond.instanceMethod yX1_write) ∈ tbl := tbl_m 566 (by decide +kernel) (by decide +kernel)
theorem k_567 : (Cond.code yX1_write cX1_write 2 none) ∈ tbl := tbl_m 567 (by decide +kernel) (by decide +kernel)
theorem k_568 : (Cond.methodLink RX1 65 yX1_sees) ∈ tbl := tbl_m 568 (by decide +kernel) (by decide +kernel)
theorem k_570 : (Cond.instanceMethod yX1_sees) ∈ tbl := tbl_m 570 (by decide +kernel) (by decide +kernel)
theorem k_571 : (Cond.code yX1_sees cX1_sees 2 (some (.boolean))) ∈ tbl := tbl_m 571 (by decide +kernel) (by decide +kernel)
theorem k_572 : (Cond.methodLink RX1 96 yX1_readBracket) ∈ tbl := tbl_m 572 (by decide +kernel) (by decide +kernel)
theorem k_574 : (Cond.instanceMethod yX1_readBracket) ∈ tbl := tbl_m 574 (by decide +kernel) (by decide +kernel)
theorem k_575 : (Cond.code yX1_readBracket cX1_readBracket 2 (some (.boolean))) ∈ tbl := tbl_m 575 (by decide +kernel) (by decide +kernel)
theorem k_576 : (Cond.methodLink RL 58 yX11_untell) ∈ tbl := tbl_m 576 (by decide +kernel) (by decide +kernel)
theorem k_577 : (Cond.instanceMethod yX11_untell) ∈ tbl := tbl_m 577 (by decide +kernel) (by decide +kernel)
theorem k_578 : (Cond.selects RX11 yX11_untell yX11_untell) ∈ tbl := tbl_m 578 (by decide +kernel) (by decide +kernel)
theorem k_579 : (Cond.code yX11_untell cX11_untell 4 (some (.int))) ∈ tbl := tbl_m 579 (by decide +kernel) (by decide +kernel)
theorem k_580 : (Cond.methodLink RX11 173 yX1_isMissing) ∈ tbl := tbl_m 580 (by decide +kernel) (by decide +kernel)
theorem k_581 : (Cond.methodLink RX11 177 yX1_forget) ∈ tbl := tbl_m 581 (by decide +kernel) (by decide +kernel)
theorem k_582 : (Cond.instanceMethod yX1_forget) ∈ tbl := tbl_m 582 (by decide +kernel) (by decide +kernel)
theorem k_583 : (Cond.selects RX1 yX1_forget yX1_forget) ∈ tbl := tbl_m 583 (by decide +kernel) (by decide +kernel)
theorem k_584 : (Cond.code yX1_forget cX1_forget 1 none) ∈ tbl := tbl_m 584 (by decide +kernel) (by decide +kernel)
theorem k_585 : (Cond.methodLink RL 62 yX11_minutes) ∈ tbl := tbl_m 585 (by decide +kernel) (by decide +kernel)
theorem k_586 : (Cond.instanceMethod yX11_minutes) ∈ tbl := tbl_m 586 (by decide +kernel) (by decide +kernel)
theorem k_587 : (Cond.selects RX11 yX11_minutes yX11_minutes) ∈ tbl := tbl_m 587 (by decide +kernel) (by decide +kernel)
theorem k_588 : (Cond.code yX11_minutes cX11_minutes 2 (some (.int))) ∈ tbl := tbl_m 588 (by decide +kernel) (by decide +kernel)
theorem k_589 : (Cond.methodLink RX11 183 yX4_pass) ∈ tbl := tbl_m 589 (by decide +kernel) (by decide +kernel)
theorem k_590 : (Cond.instanceMethod yX4_pass) ∈ tbl := tbl_m 590 (by decide +kernel) (by decide +kernel)
theorem k_591 : (Cond.selects RX4 yX4_pass yX4_pass) ∈ tbl := tbl_m 591 (by decide +kernel) (by decide +kernel)
theorem k_592 : (Cond.code yX4_pass cX4_pass 4 (some (.int))) ∈ tbl := tbl_m 592 (by decide +kernel) (by decide +kernel)
theorem k_593 : (Cond.methodLink RX4 80 yX4_passMinute) ∈ tbl := tbl_m 593 (by decide +kernel) (by decide +kernel)
theorem k_594 : (Cond.instanceMethod yX4_passMinute) ∈ tbl := tbl_m 594 (by decide +kernel) (by decide +kernel)
theorem k_595 : (Cond.selects RX4 yX4_passMinute yX4_passMinute) ∈ tbl := tbl_m 595 (by decide +kernel) (by decide +kernel)
theorem k_596 : (Cond.code yX4_passMinute cX4_passMinute 2 (some (.int))) ∈ tbl := tbl_m 596 (by decide +kernel) (by decide +kernel)
theorem k_597 : (Cond.methodLink RX4 83 yX4_spends) ∈ tbl := tbl_m 597 (by decide +kernel) (by decide +kernel)
theorem k_598 : (Cond.methodLink RX4 90 yX4_settle) ∈ tbl := tbl_m 598 (by decide +kernel) (by decide +kernel)
theorem k_599 : (Cond.methodLink RL 66 yX11_fly) ∈ tbl := tbl_m 599 (by decide +kernel) (by decide +kernel)
theorem k_600 : (Cond.instanceMethod yX11_fly) ∈ tbl := tbl_m 600 (by decide +kernel) (by decide +kernel)
theorem k_601 : (Cond.selects RX11 yX11_fly yX11_fly) ∈ tbl := tbl_m 601 (by decide +kernel) (by decide +kernel)
theorem k_602 : (Cond.code yX11_fly cX11_fly 2 (some (.int))) ∈ tbl := tbl_m 602 (by decide +kernel) (by decide +kernel)
theorem k_603 : (Cond.methodLink RX11 186 yX4_flyAt) ∈ tbl := tbl_m 603 (by decide +kernel) (by decide +kernel)
theorem k_604 : (Cond.instanceMethod yX4_flyAt) ∈ tbl := tbl_m 604 (by decide +kernel) (by decide +kernel)
theorem k_605 : (Cond.selects RX4 yX4_flyAt yX4_flyAt) ∈ tbl := tbl_m 605 (by decide +kernel) (by decide +kernel)
theorem k_606 : (Cond.code yX4_flyAt cX4_flyAt 3 (some (.int))) ∈ tbl := tbl_m 606 (by decide +kernel) (by decide +kernel)
theorem k_607 : (Cond.methodLink RX4 93 yX4_whoIsAt) ∈ tbl := tbl_m 607 (by decide +kernel) (by decide +kernel)
theorem k_608 : (Cond.methodLink RX4 96 yX4_bite) ∈ tbl := tbl_m 608 (by decide +kernel) (by decide +kernel)
theorem k_609 : (Cond.methodLink RL 70 yX11_poke) ∈ tbl := tbl_m 609 (by decide +kernel) (by decide +kernel)
theorem k_610 : (Cond.instanceMethod yX11_poke) ∈ tbl := tbl_m 610 (by decide +kernel) (by decide +kernel)
theorem k_611 : (Cond.selects RX11 yX11_poke yX11_poke) ∈ tbl := tbl_m 611 (by decide +kernel) (by decide +kernel)
theorem k_612 : (Cond.code yX11_poke cX11_poke 2 (some (.int))) ∈ tbl := tbl_m 612 (by decide +kernel) (by decide +kernel)
theorem k_613 : (Cond.methodLink RX11 189 yX4_pokeOne) ∈ tbl := tbl_m 613 (by decide +kernel) (by decide +kernel)
theorem k_614 : (Cond.instanceMethod yX4_pokeOne) ∈ tbl := tbl_m 614 (by decide +kernel) (by decide +kernel)
theorem k_615 : (Cond.selects RX4 yX4_pokeOne yX4_pokeOne) ∈ tbl := tbl_m 615 (by decide +kernel) (by decide +kernel)
theorem k_616 : (Cond.code yX4_pokeOne cX4_pokeOne 2 (some (.int))) ∈ tbl := tbl_m 616 (by decide +kernel) (by decide +kernel)
theorem k_617 : (Cond.methodLink RL 74 yX11_draws) ∈ tbl := tbl_m 617 (by decide +kernel) (by decide +kernel)
theorem k_618 : (Cond.instanceMethod yX11_draws) ∈ tbl := tbl_m 618 (by decide +kernel) (by decide +kernel)
theorem k_619 : (Cond.selects RX11 yX11_draws yX11_draws) ∈ tbl := tbl_m 619 (by decide +kernel) (by decide +kernel)
theorem k_620 : (Cond.code yX11_draws cX11_draws 4 (some (.int))) ∈ tbl := tbl_m 620 (by decide +kernel) (by decide +kernel)
theorem k_621 : (Cond.methodLink RX11 192 yX5_draw) ∈ tbl := tbl_m 621 (by decide +kernel) (by decide +kernel)
theorem k_622 : (Cond.instanceMethod yX5_draw) ∈ tbl := tbl_m 622 (by decide +kernel) (by decide +kernel)
theorem k_623 : (Cond.selects RX5 yX5_draw yX5_draw) ∈ tbl := tbl_m 623 (by decide +kernel) (by decide +kernel)
theorem k_624 : (Cond.code yX5_draw cX5_draw 1 (some (.int))) ∈ tbl := tbl_m 624 (by decide +kernel) (by decide +kernel)
theorem k_625 : (Cond.constant RX5 63 (1103515245)) ∈ tbl := tbl_m 625 (by decide +kernel) (by decide +kernel)
theorem k_626 : (Cond.methodLink RL 78 yX11_seed) ∈ tbl := tbl_m 626 (by decide +kernel) (by decide +kernel)
theorem k_627 : (Cond.instanceMethod yX11_seed) ∈ tbl := tbl_m 627 (by decide +kernel) (by decide +kernel)
theorem k_628 : (Cond.selects RX11 yX11_seed yX11_seed) ∈ tbl := tbl_m 628 (by decide +kernel) (by decide +kernel)
theorem k_629 : (Cond.code yX11_seed cX11_seed 3 (some (.int))) ∈ tbl := tbl_m 629 (by decide +kernel) (by decide +kernel)
theorem k_630 : (Cond.methodLink RL 82 yX11_then) ∈ tbl := tbl_m 630 (by decide +kernel) (by decide +kernel)
theorem k_631 : (Cond.instanceMethod yX11_then) ∈ tbl := tbl_m 631 (by decide +kernel) (by decide +kernel)
theorem k_632 : (Cond.selects RX11 yX11_then yX11_then) ∈ tbl := tbl_m 632 (by decide +kernel) (by decide +kernel)
theorem k_633 : (Cond.code yX11_then cX11_then 4 (some (.int))) ∈ tbl := tbl_m 633 (by decide +kernel) (by decide +kernel)
theorem k_634 : (Cond.methodLink RX11 198 yX11_lookAhead) ∈ tbl := tbl_m 634 (by decide +kernel) (by decide +kernel)
theorem k_636 : (Cond.instanceMethod yX11_lookAhead) ∈ tbl := tbl_m 636 (by decide +kernel) (by decide +kernel)
theorem k_637 : (Cond.code yX11_lookAhead cX11_lookAhead 2 none) ∈ tbl := tbl_m 637 (by decide +kernel) (by decide +kernel)
theorem k_638 : (Cond.methodLink RX11 205 yX4_copyFrom) ∈ tbl := tbl_m 638 (by decide +kernel) (by decide +kernel)
theorem k_639 : (Cond.instanceMethod yX4_copyFrom) ∈ tbl := tbl_m 639 (by decide +kernel) (by decide +kernel)
theorem k_640 : (Cond.selects RX4 yX4_copyFrom yX4_copyFrom) ∈ tbl := tbl_m 640 (by decide +kernel) (by decide +kernel)
theorem k_641 : (Cond.code yX4_copyFrom cX4_copyFrom 2 none) ∈ tbl := tbl_m 641 (by decide +kernel) (by decide +kernel)
theorem k_642 : (Cond.methodLink RX4 42 arraycopyName) ∈ tbl := tbl_m 642 (by decide +kernel) (by decide +kernel)
theorem k_643 : (Cond.static arraycopyName) ∈ tbl := tbl_m 643 (by decide +kernel) (by decide +kernel)
theorem k_644 : (Cond.native arraycopyName) ∈ tbl := tbl_m 644 (by decide +kernel) (by decide +kernel)
theorem k_645 : (Cond.methodLink RL 87 yX11_standing) ∈ tbl := tbl_m 645 (by decide +kernel) (by decide +kernel)
theorem k_646 : (Cond.instanceMethod yX11_standing) ∈ tbl := tbl_m 646 (by decide +kernel) (by decide +kernel)
theorem k_647 : (Cond.selects RX11 yX11_standing yX11_standing) ∈ tbl := tbl_m 647 (by decide +kernel) (by decide +kernel)
theorem k_648 : (Cond.code yX11_standing cX11_standing 2 (some (.int))) ∈ tbl := tbl_m 648 (by decide +kernel) (by decide +kernel)
theorem k_649 : (Cond.methodLink RX11 202 yX4_howMany) ∈ tbl := tbl_m 649 (by decide +kernel) (by decide +kernel)
theorem k_650 : (Cond.instanceMethod yX4_howMany) ∈ tbl := tbl_m 650 (by decide +kernel) (by decide +kernel)
theorem k_651 : (Cond.selects RX4 yX4_howMany yX4_howMany) ∈ tbl := tbl_m 651 (by decide +kernel) (by decide +kernel)
theorem k_652 : (Cond.code yX4_howMany cX4_howMany 1 (some (.int))) ∈ tbl := tbl_m 652 (by decide +kernel) (by decide +kernel)
theorem k_653 : (Cond.methodLink RX4 71 yX4_bits) ∈ tbl := tbl_m 653 (by decide +kernel) (by decide +kernel)
theorem k_654 : (Cond.instanceMethod yX4_bits) ∈ tbl := tbl_m 654 (by decide +kernel) (by decide +kernel)
theorem k_655 : (Cond.selects RX4 yX4_bits yX4_bits) ∈ tbl := tbl_m 655 (by decide +kernel) (by decide +kernel)
theorem k_656 : (Cond.code yX4_bits cX4_bits 3 (some (.int))) ∈ tbl := tbl_m 656 (by decide +kernel) (by decide +kernel)
theorem k_657 : (Cond.methodLink RX4 75 yJ6_bitCount_0f7a4) ∈ tbl := tbl_m 657 (by decide +kernel) (by decide +kernel)
theorem k_658 : (Cond.static yJ6_bitCount_0f7a4) ∈ tbl := tbl_m 658 (by decide +kernel) (by decide +kernel)
theorem k_659 : (Cond.code yJ6_bitCount_0f7a4 cJ6_bitCount_0f7a4 1 (some (.int))) ∈ tbl := tbl_m 659 (by decide +kernel) (by decide +kernel)
theorem k_660 : (Cond.constant "java/lang/Integer" 265 (1431655765)) ∈ tbl := tbl_m 660 (by decide +kernel) (by decide +kernel)
theorem k_661 : (Cond.constant "java/lang/Integer" 266 (858993459)) ∈ tbl := tbl_m 661 (by decide +kernel) (by decide +kernel)
theorem k_662 : (Cond.constant "java/lang/Integer" 267 (252645135)) ∈ tbl := tbl_m 662 (by decide +kernel) (by decide +kernel)
theorem k_663 : (Cond.methodLink RL 91 yX11_lasts) ∈ tbl := tbl_m 663 (by decide +kernel) (by decide +kernel)
theorem k_664 : (Cond.instanceMethod yX11_lasts) ∈ tbl := tbl_m 664 (by decide +kernel) (by decide +kernel)
theorem k_665 : (Cond.selects RX11 yX11_lasts yX11_lasts) ∈ tbl := tbl_m 665 (by decide +kernel) (by decide +kernel)
theorem k_666 : (Cond.code yX11_lasts cX11_lasts 3 (some (.int))) ∈ tbl := tbl_m 666 (by decide +kernel) (by decide +kernel)
theorem k_667 : (Cond.methodLink RX11 209 yX4_lastsFor) ∈ tbl := tbl_m 667 (by decide +kernel) (by decide +kernel)
theorem k_668 : (Cond.instanceMethod yX4_lastsFor) ∈ tbl := tbl_m 668 (by decide +kernel) (by decide +kernel)
theorem k_669 : (Cond.selects RX4 yX4_lastsFor yX4_lastsFor) ∈ tbl := tbl_m 669 (by decide +kernel) (by decide +kernel)
theorem k_670 : (Cond.code yX4_lastsFor cX4_lastsFor 3 (some (.int))) ∈ tbl := tbl_m 670 (by decide +kernel) (by decide +kernel)
theorem k_671 : (Cond.methodLink RL 95 yX11_lastOne) ∈ tbl := tbl_m 671 (by decide +kernel) (by decide +kernel)
theorem k_672 : (Cond.instanceMethod yX11_lastOne) ∈ tbl := tbl_m 672 (by decide +kernel) (by decide +kernel)
theorem k_673 : (Cond.selects RX11 yX11_lastOne yX11_lastOne) ∈ tbl := tbl_m 673 (by decide +kernel) (by decide +kernel)
theorem k_674 : (Cond.code yX11_lastOne cX11_lastOne 5 (some (.int))) ∈ tbl := tbl_m 674 (by decide +kernel) (by decide +kernel)
theorem k_675 : (Cond.methodLink RL 100 yX11_round) ∈ tbl := tbl_m 675 (by decide +kernel) (by decide +kernel)
theorem k_676 : (Cond.instanceMethod yX11_round) ∈ tbl := tbl_m 676 (by decide +kernel) (by decide +kernel)
theorem k_677 : (Cond.selects RX11 yX11_round yX11_round) ∈ tbl := tbl_m 677 (by decide +kernel) (by decide +kernel)
theorem k_678 : (Cond.code yX11_round cX11_round 5 (some (.int))) ∈ tbl := tbl_m 678 (by decide +kernel) (by decide +kernel)
theorem k_679 : (Cond.methodLink RX11 212 yX11_bestRound) ∈ tbl := tbl_m 679 (by decide +kernel) (by decide +kernel)
theorem k_681 : (Cond.instanceMethod yX11_bestRound) ∈ tbl := tbl_m 681 (by decide +kernel) (by decide +kernel)
theorem k_682 : (Cond.code yX11_bestRound cX11_bestRound 8 (some (.int))) ∈ tbl := tbl_m 682 (by decide +kernel) (by decide +kernel)
theorem k_683 : (Cond.fieldLink RX11 303 "StandStill" "NINES" "[I") ∈ tbl := tbl_m 683 (by decide +kernel) (by decide +kernel)
theorem k_685 : (Cond.methodLink RX11 306 yX11_flyRow) ∈ tbl := tbl_m 685 (by decide +kernel) (by decide +kernel)
theorem k_687 : (Cond.instanceMethod yX11_flyRow) ∈ tbl := tbl_m 687 (by decide +kernel) (by decide +kernel)
theorem k_688 : (Cond.code yX11_flyRow cX11_flyRow 5 none) ∈ tbl := tbl_m 688 (by decide +kernel) (by decide +kernel)
theorem k_689 : (Cond.fieldLink RX11 215 "StandStill" "TENS" "[I") ∈ tbl := tbl_m 689 (by decide +kernel) (by decide +kernel)
theorem k_691 : (Cond.methodLink RX11 309 yX11_figures) ∈ tbl := tbl_m 691 (by decide +kernel) (by decide +kernel)
theorem k_692 : (Cond.static yX11_figures) ∈ tbl := tbl_m 692 (by decide +kernel) (by decide +kernel)
theorem k_693 : (Cond.code yX11_figures cX11_figures 4 (some (.int))) ∈ tbl := tbl_m 693 (by decide +kernel) (by decide +kernel)
theorem k_694 : (Cond.methodLink RL 104 yX11_change) ∈ tbl := tbl_m 694 (by decide +kernel) (by decide +kernel)
theorem k_695 : (Cond.instanceMethod yX11_change) ∈ tbl := tbl_m 695 (by decide +kernel) (by decide +kernel)
theorem k_696 : (Cond.selects RX11 yX11_change yX11_change) ∈ tbl := tbl_m 696 (by decide +kernel) (by decide +kernel)
theorem k_697 : (Cond.code yX11_change cX11_change 7 (some (.int))) ∈ tbl := tbl_m 697 (by decide +kernel) (by decide +kernel)
theorem k_698 : (Cond.methodLink RL 108 yX11_empties) ∈ tbl := tbl_m 698 (by decide +kernel) (by decide +kernel)
theorem k_699 : (Cond.instanceMethod yX11_empties) ∈ tbl := tbl_m 699 (by decide +kernel) (by decide +kernel)
theorem k_700 : (Cond.selects RX11 yX11_empties yX11_empties) ∈ tbl := tbl_m 700 (by decide +kernel) (by decide +kernel)
theorem k_701 : (Cond.code yX11_empties cX11_empties 6 (some (.int))) ∈ tbl := tbl_m 701 (by decide +kernel) (by decide +kernel)
theorem k_702 : (Cond.methodLink RX11 218 yX4_bits) ∈ tbl := tbl_m 702 (by decide +kernel) (by decide +kernel)
theorem k_703 : (Cond.methodLink RX11 221 yJ6_bitCount_0f7a4) ∈ tbl := tbl_m 703 (by decide +kernel) (by decide +kernel)
theorem k_704 : (Cond.methodLink RX11 226 yX11_isEmptiedBy) ∈ tbl := tbl_m 704 (by decide +kernel) (by decide +kernel)
theorem k_706 : (Cond.instanceMethod yX11_isEmptiedBy) ∈ tbl := tbl_m 706 (by decide +kernel) (by decide +kernel)
theorem k_707 : (Cond.code yX11_isEmptiedBy cX11_isEmptiedBy 3 (some (.boolean))) ∈ tbl := tbl_m 707 (by decide +kernel) (by decide +kernel)
theorem k_708 : (Cond.methodLink RL 112 yX11_whose) ∈ tbl := tbl_m 708 (by decide +kernel) (by decide +kernel)
theorem k_709 : (Cond.instanceMethod yX11_whose) ∈ tbl := tbl_m 709 (by decide +kernel) (by decide +kernel)
theorem k_710 : (Cond.selects RX11 yX11_whose yX11_whose) ∈ tbl := tbl_m 710 (by decide +kernel) (by decide +kernel)
theorem k_711 : (Cond.code yX11_whose cX11_whose 5 (some (.int))) ∈ tbl := tbl_m 711 (by decide +kernel) (by decide +kernel)
theorem k_712 : (Cond.methodLink RL 116 yX11_slate) ∈ tbl := tbl_m 712 (by decide +kernel) (by decide +kernel)
theorem k_713 : (Cond.instanceMethod yX11_slate) ∈ tbl := tbl_m 713 (by decide +kernel) (by decide +kernel)
theorem k_714 : (Cond.selects RX11 yX11_slate yX11_slate) ∈ tbl := tbl_m 714 (by decide +kernel) (by decide +kernel)
theorem k_715 : (Cond.code yX11_slate cX11_slate 9 (some (.long))) ∈ tbl := tbl_m 715 (by decide +kernel) (by decide +kernel)
theorem k_716 : (Cond.methodLink RX11 229 yX11_isSheet) ∈ tbl := tbl_m 716 (by decide +kernel) (by decide +kernel)
theorem k_717 : (Cond.static yX11_isSheet) ∈ tbl := tbl_m 717 (by decide +kernel) (by decide +kernel)
theorem k_718 : (Cond.code yX11_isSheet cX11_isSheet 1 (some (.boolean))) ∈ tbl := tbl_m 718 (by decide +kernel) (by decide +kernel)
theorem k_719 : (Cond.methodLink RX11 232 yX11_isMissing) ∈ tbl := tbl_m 719 (by decide +kernel) (by decide +kernel)
theorem k_721 : (Cond.instanceMethod yX11_isMissing) ∈ tbl := tbl_m 721 (by decide +kernel) (by decide +kernel)
theorem k_722 : (Cond.code yX11_isMissing cX11_isMissing 2 (some (.boolean))) ∈ tbl := tbl_m 722 (by decide +kernel) (by decide +kernel)
theorem k_723 : (Cond.methodLink RX11 234 yX11_commonDivisor) ∈ tbl := tbl_m 723 (by decide +kernel) (by decide +kernel)
theorem k_724 : (Cond.static yX11_commonDivisor) ∈ tbl := tbl_m 724 (by decide +kernel) (by decide +kernel)
theorem k_725 : (Cond.code yX11_commonDivisor cX11_commonDivisor 11 (some (.long))) ∈ tbl := tbl_m 725 (by decide +kernel) (by decide +kernel)
theorem k_726 : (Cond.methodLink RX11 298 Lib.MathLoose.max_long.x) ∈ tbl := tbl_m 726 (by decide +kernel) (by decide +kernel)
theorem k_727 : (Cond.static Lib.MathLoose.max_long.x) ∈ tbl := tbl_m 727 (by decide +kernel) (by decide +kernel)
theorem k_728 : (Cond.code Lib.MathLoose.max_long.x Lib.MathLoose.max_long.code 4 (some (.long))) ∈ tbl := tbl_m 728 (by decide +kernel) (by decide +kernel)
theorem k_729 : (Cond.methodLink RL 121 yX11_voice) ∈ tbl := tbl_m 729 (by decide +kernel) (by decide +kernel)
theorem k_730 : (Cond.instanceMethod yX11_voice) ∈ tbl := tbl_m 730 (by decide +kernel) (by decide +kernel)
theorem k_731 : (Cond.selects RX11 yX11_voice yX11_voice) ∈ tbl := tbl_m 731 (by decide +kernel) (by decide +kernel)
theorem k_732 : (Cond.code yX11_voice cX11_voice 6 (some (.int))) ∈ tbl := tbl_m 732 (by decide +kernel) (by decide +kernel)
theorem k_733 : (Cond.methodLink RX11 238 yX6_starts) ∈ tbl := tbl_m 733 (by decide +kernel) (by decide +kernel)
theorem k_734 : (Cond.instanceMethod yX6_starts) ∈ tbl := tbl_m 734 (by decide +kernel) (by decide +kernel)
theorem k_735 : (Cond.selects RX6 yX6_starts yX6_starts) ∈ tbl := tbl_m 735 (by decide +kernel) (by decide +kernel)
theorem k_736 : (Cond.code yX6_starts cX6_starts 3 none) ∈ tbl := tbl_m 736 (by decide +kernel) (by decide +kernel)
theorem k_737 : (Cond.methodLink RX11 241 yX7_holds) ∈ tbl := tbl_m 737 (by decide +kernel) (by decide +kernel)
theorem k_738 : (Cond.instanceMethod yX7_holds) ∈ tbl := tbl_m 738 (by decide +kernel) (by decide +kernel)
theorem k_739 : (Cond.selects RX7 yX7_holds yX7_holds) ∈ tbl := tbl_m 739 (by decide +kernel) (by decide +kernel)
theorem k_740 : (Cond.sameMethod RX7 RX7 "holds" "(LStandStill$Speaker;I)I") ∈ tbl := tbl_m 740 (by decide +kernel) (by decide +kernel)
theorem k_741 : (Cond.selects RX0 yX7_holds yX0_holds) ∈ tbl := tbl_m 741 (by decide +kernel) (by decide +kernel)
theorem k_742 : (Cond.instanceMethod yX0_holds) ∈ tbl := tbl_m 742 (by decide +kernel) (by decide +kernel)
theorem k_743 : (Cond.code yX0_holds cX0_holds 3 (some (.int))) ∈ tbl := tbl_m 743 (by decide +kernel) (by decide +kernel)
theorem k_744 : (Cond.methodLink RX0 7 yX6_begins) ∈ tbl := tbl_m 744 (by decide +kernel) (by decide +kernel)
theorem k_745 : (Cond.instanceMethod yX6_begins) ∈ tbl := tbl_m 745 (by decide +kernel) (by decide +kernel)
theorem k_746 : (Cond.selects RX6 yX6_begins yX6_begins) ∈ tbl := tbl_m 746 (by decide +kernel) (by decide +kernel)
theorem k_747 : (Cond.code yX6_begins cX6_begins 2 none) ∈ tbl := tbl_m 747 (by decide +kernel) (by decide +kernel)
theorem k_748 : (Cond.methodLink RX0 13 yX7_holds) ∈ tbl := tbl_m 748 (by decide +kernel) (by decide +kernel)
theorem k_749 : (Cond.selects RX2 yX7_holds yX7_holds) ∈ tbl := tbl_m 749 (by decide +kernel) (by decide +kernel)
theorem k_750 : (Cond.selects RX3 yX7_holds yX3_holds) ∈ tbl := tbl_m 750 (by decide +kernel) (by decide +kernel)
theorem k_751 : (Cond.instanceMethod yX3_holds) ∈ tbl := tbl_m 751 (by decide +kernel) (by decide +kernel)
theorem k_752 : (Cond.code yX3_holds cX3_holds 3 (some (.int))) ∈ tbl := tbl_m 752 (by decide +kernel) (by decide +kernel)
theorem k_753 : (Cond.methodLink RX3 21 yX6_begins) ∈ tbl := tbl_m 753 (by decide +kernel) (by decide +kernel)
theorem k_754 : (Cond.methodLink RX3 27 yX0_holds) ∈ tbl := tbl_m 754 (by decide +kernel) (by decide +kernel)
theorem k_755 : (Cond.selects RX8 yX7_holds yX7_holds) ∈ tbl := tbl_m 755 (by decide +kernel) (by decide +kernel)
theorem k_756 : (Cond.selects RX9 yX7_holds yX9_holds) ∈ tbl := tbl_m 756 (by decide +kernel) (by decide +kernel)
theorem k_757 : (Cond.instanceMethod yX9_holds) ∈ tbl := tbl_m 757 (by decide +kernel) (by decide +kernel)
theorem k_758 : (Cond.code yX9_holds cX9_holds 3 (some (.int))) ∈ tbl := tbl_m 758 (by decide +kernel) (by decide +kernel)
theorem k_759 : (Cond.methodLink RX9 37 yX6_begins) ∈ tbl := tbl_m 759 (by decide +kernel) (by decide +kernel)
theorem k_760 : (Cond.selects RX10 yX7_holds yX7_holds) ∈ tbl := tbl_m 760 (by decide +kernel) (by decide +kernel)
theorem k_761 : (Cond.code yX7_holds cX7_holds 3 (some (.int))) ∈ tbl := tbl_m 761 (by decide +kernel) (by decide +kernel)
theorem k_762 : (Cond.methodLink RX7 13 yX6_begins) ∈ tbl := tbl_m 762 (by decide +kernel) (by decide +kernel)
theorem k_763 : (Cond.methodLink RX11 245 yX7_leans) ∈ tbl := tbl_m 763 (by decide +kernel) (by decide +kernel)
theorem k_764 : (Cond.instanceMethod yX7_leans) ∈ tbl := tbl_m 764 (by decide +kernel) (by decide +kernel)
theorem k_765 : (Cond.selects RX7 yX7_leans yX7_leans) ∈ tbl := tbl_m 765 (by decide +kernel) (by decide +kernel)
theorem k_766 : (Cond.sameMethod RX7 RX7 "leans" "(LStandStill$Speaker;I)I") ∈ tbl := tbl_m 766 (by decide +kernel) (by decide +kernel)
theorem k_767 : (Cond.selects RX0 yX7_leans yX7_leans) ∈ tbl := tbl_m 767 (by decide +kernel) (by decide +kernel)
theorem k_768 : (Cond.selects RX2 yX7_leans yX2_leans) ∈ tbl := tbl_m 768 (by decide +kernel) (by decide +kernel)
theorem k_769 : (Cond.instanceMethod yX2_leans) ∈ tbl := tbl_m 769 (by decide +kernel) (by decide +kernel)
theorem k_770 : (Cond.code yX2_leans cX2_leans 3 (some (.int))) ∈ tbl := tbl_m 770 (by decide +kernel) (by decide +kernel)
theorem k_771 : (Cond.methodLink RX2 17 yX6_begins) ∈ tbl := tbl_m 771 (by decide +kernel) (by decide +kernel)
theorem k_772 : (Cond.methodLink RX2 23 yX7_leans) ∈ tbl := tbl_m 772 (by decide +kernel) (by decide +kernel)
theorem k_773 : (Cond.selects RX3 yX7_leans yX7_leans) ∈ tbl := tbl_m 773 (by decide +kernel) (by decide +kernel)
theorem k_774 : (Cond.selects RX8 yX7_leans yX7_leans) ∈ tbl := tbl_m 774 (by decide +kernel) (by decide +kernel)
theorem k_775 : (Cond.selects RX9 yX7_leans yX9_leans) ∈ tbl := tbl_m 775 (by decide +kernel) (by decide +kernel)
theorem k_776 : (Cond.instanceMethod yX9_leans) ∈ tbl := tbl_m 776 (by decide +kernel) (by decide +kernel)
theorem k_777 : (Cond.code yX9_leans cX9_leans 3 (some (.int))) ∈ tbl := tbl_m 777 (by decide +kernel) (by decide +kernel)
theorem k_778 : (Cond.methodLink RX9 43 yX7_leans) ∈ tbl := tbl_m 778 (by decide +kernel) (by decide +kernel)
theorem k_779 : (Cond.selects RX10 yX7_leans yX10_leans) ∈ tbl := tbl_m 779 (by decide +kernel) (by decide +kernel)
theorem k_780 : (Cond.instanceMethod yX10_leans) ∈ tbl := tbl_m 780 (by decide +kernel) (by decide +kernel)
theorem k_781 : (Cond.code yX10_leans cX10_leans 3 (some (.int))) ∈ tbl := tbl_m 781 (by decide +kernel) (by decide +kernel)
theorem k_782 : (Cond.methodLink RX10 11 yX6_begins) ∈ tbl := tbl_m 782 (by decide +kernel) (by decide +kernel)
theorem k_783 : (Cond.methodLink RX10 17 yX2_leans) ∈ tbl := tbl_m 783 (by decide +kernel) (by decide +kernel)
theorem k_784 : (Cond.code yX7_leans cX7_leans 3 (some (.int))) ∈ tbl := tbl_m 784 (by decide +kernel) (by decide +kernel)
theorem k_785 : (Cond.methodLink RX7 22 yX7_holds) ∈ tbl := tbl_m 785 (by decide +kernel) (by decide +kernel)
theorem k_786 : (Cond.methodLink RX11 248 yX7_sways) ∈ tbl := tbl_m 786 (by decide +kernel) (by decide +kernel)
theorem k_787 : (Cond.instanceMethod yX7_sways) ∈ tbl := tbl_m 787 (by decide +kernel) (by decide +kernel)
theorem k_788 : (Cond.selects RX7 yX7_sways yX7_sways) ∈ tbl := tbl_m 788 (by decide +kernel) (by decide +kernel)
theorem k_789 : (Cond.sameMethod RX7 RX7 "sways" "(LStandStill$Speaker;I)I") ∈ tbl := tbl_m 789 (by decide +kernel) (by decide +kernel)
theorem k_790 : (Cond.selects RX0 yX7_sways yX7_sways) ∈ tbl := tbl_m 790 (by decide +kernel) (by decide +kernel)
theorem k_791 : (Cond.selects RX2 yX7_sways yX7_sways) ∈ tbl := tbl_m 791 (by decide +kernel) (by decide +kernel)
theorem k_792 : (Cond.selects RX3 yX7_sways yX3_sways) ∈ tbl := tbl_m 792 (by decide +kernel) (by decide +kernel)
theorem k_793 : (Cond.instanceMethod yX3_sways) ∈ tbl := tbl_m 793 (by decide +kernel) (by decide +kernel)
theorem k_794 : (Cond.code yX3_sways cX3_sways 3 (some (.int))) ∈ tbl := tbl_m 794 (by decide +kernel) (by decide +kernel)
theorem k_795 : (Cond.methodLink RX3 31 ⟨"StandStill$Asleep", "sways", "(LStandStill$Speaker;I)I"⟩) ∈ tbl := tbl_m 795 (by decide +kernel) (by decide +kernel)
theorem k_796 : (Cond.sameMethod RX0 RX7 "sways" "(LStandStill$Speaker;I)I") ∈ tbl := tbl_m 796 (by decide +kernel) (by decide +kernel)
theorem k_798 : (Cond.selects RX8 yX7_sways yX8_sways) ∈ tbl := tbl_m 798 (by decide +kernel) (by decide +kernel)
theorem k_799 : (Cond.instanceMethod yX8_sways) ∈ tbl := tbl_m 799 (by decide +kernel) (by decide +kernel)
theorem k_800 : (Cond.code yX8_sways cX8_sways 3 (some (.int))) ∈ tbl := tbl_m 800 (by decide +kernel) (by decide +kernel)
theorem k_801 : (Cond.methodLink RX8 11 yX6_begins) ∈ tbl := tbl_m 801 (by decide +kernel) (by decide +kernel)
theorem k_802 : (Cond.methodLink RX8 17 yX7_sways) ∈ tbl := tbl_m 802 (by decide +kernel) (by decide +kernel)
theorem k_803 : (Cond.selects RX9 yX7_sways yX7_sways) ∈ tbl := tbl_m 803 (by decide +kernel) (by decide +kernel)
theorem k_804 : (Cond.selects RX10 yX7_sways yX7_sways) ∈ tbl := tbl_m 804 (by decide +kernel) (by decide +kernel)
theorem k_805 : (Cond.code yX7_sways cX7_sways 3 (some (.int))) ∈ tbl := tbl_m 805 (by decide +kernel) (by decide +kernel)
theorem k_806 : (Cond.methodLink RX7 28 yX7_leans) ∈ tbl := tbl_m 806 (by decide +kernel) (by decide +kernel)
theorem k_807 : (Cond.methodLink RX11 251 yX7_parts) ∈ tbl := tbl_m 807 (by decide +kernel) (by decide +kernel)
theorem k_808 : (Cond.instanceMethod yX7_parts) ∈ tbl := tbl_m 808 (by decide +kernel) (by decide +kernel)
theorem k_809 : (Cond.selects RX7 yX7_parts yX7_parts) ∈ tbl := tbl_m 809 (by decide +kernel) (by decide +kernel)
theorem k_810 : (Cond.sameMethod RX7 RX7 "parts" "(LStandStill$Speaker;I)I") ∈ tbl := tbl_m 810 (by decide +kernel) (by decide +kernel)
theorem k_811 : (Cond.selects RX0 yX7_parts yX0_parts) ∈ tbl := tbl_m 811 (by decide +kernel) (by decide +kernel)
theorem k_812 : (Cond.instanceMethod yX0_parts) ∈ tbl := tbl_m 812 (by decide +kernel) (by decide +kernel)
theorem k_813 : (Cond.code yX0_parts cX0_parts 4 (some (.int))) ∈ tbl := tbl_m 813 (by decide +kernel) (by decide +kernel)
theorem k_814 : (Cond.methodLink RX0 17 yX7_parts) ∈ tbl := tbl_m 814 (by decide +kernel) (by decide +kernel)
theorem k_815 : (Cond.methodLink RX0 24 ⟨"StandStill$Asleep", "leans", "(LStandStill$Speaker;I)I"⟩) ∈ tbl := tbl_m 815 (by decide +kernel) (by decide +kernel)
theorem k_816 : (Cond.sameMethod RX0 RX7 "leans" "(LStandStill$Speaker;I)I") ∈ tbl := tbl_m 816 (by decide +kernel) (by decide +kernel)
theorem k_818 : (Cond.selects RX0 ⟨"StandStill$Asleep", "leans", "(LStandStill$Speaker;I)I"⟩ yX7_leans) ∈ tbl := tbl_m 818 (by decide +kernel) (by decide +kernel)
theorem k_819 : (Cond.selects RX3 ⟨"StandStill$Asleep", "leans", "(LStandStill$Speaker;I)I"⟩ yX7_leans) ∈ tbl := tbl_m 819 (by decide +kernel) (by decide +kernel)
theorem k_820 : (Cond.selects RX2 yX7_parts yX7_parts) ∈ tbl := tbl_m 820 (by decide +kernel) (by decide +kernel)
theorem k_821 : (Cond.selects RX3 yX7_parts yX0_parts) ∈ tbl := tbl_m 821 (by decide +kernel) (by decide +kernel)
theorem k_822 : (Cond.selects RX8 yX7_parts yX7_parts) ∈ tbl := tbl_m 822 (by decide +kernel) (by decide +kernel)
theorem k_823 : (Cond.selects RX9 yX7_parts yX7_parts) ∈ tbl := tbl_m 823 (by decide +kernel) (by decide +kernel)
theorem k_824 : (Cond.selects RX10 yX7_parts yX7_parts) ∈ tbl := tbl_m 824 (by decide +kernel) (by decide +kernel)
theorem k_825 : (Cond.code yX7_parts cX7_parts 4 (some (.int))) ∈ tbl := tbl_m 825 (by decide +kernel) (by decide +kernel)
theorem k_826 : (Cond.methodLink RX11 258 yX6_keep) ∈ tbl := tbl_m 826 (by decide +kernel) (by decide +kernel)
theorem k_827 : (Cond.instanceMethod yX6_keep) ∈ tbl := tbl_m 827 (by decide +kernel) (by decide +kernel)
theorem k_828 : (Cond.selects RX6 yX6_keep yX6_keep) ∈ tbl := tbl_m 828 (by decide +kernel) (by decide +kernel)
theorem k_829 : (Cond.code yX6_keep cX6_keep 1 none) ∈ tbl := tbl_m 829 (by decide +kernel) (by decide +kernel)
theorem k_830 : (Cond.methodLink RX6 32 arraycopyName) ∈ tbl := tbl_m 830 (by decide +kernel) (by decide +kernel)
theorem k_831 : (Cond.methodLink RL 125 yX11_body) ∈ tbl := tbl_m 831 (by decide +kernel) (by decide +kernel)
theorem k_832 : (Cond.instanceMethod yX11_body) ∈ tbl := tbl_m 832 (by decide +kernel) (by decide +kernel)
theorem k_833 : (Cond.selects RX11 yX11_body yX11_body) ∈ tbl := tbl_m 833 (by decide +kernel) (by decide +kernel)
theorem k_834 : (Cond.code yX11_body cX11_body 2 (some (.int))) ∈ tbl := tbl_m 834 (by decide +kernel) (by decide +kernel)
theorem k_835 : (Cond.methodLink RL 129 yX11_sheet) ∈ tbl := tbl_m 835 (by decide +kernel) (by decide +kernel)
theorem k_836 : (Cond.instanceMethod yX11_sheet) ∈ tbl := tbl_m 836 (by decide +kernel) (by decide +kernel)
theorem k_837 : (Cond.selects RX11 yX11_sheet yX11_sheet) ∈ tbl := tbl_m 837 (by decide +kernel) (by decide +kernel)
theorem k_838 : (Cond.code yX11_sheet cX11_sheet 5 (some (.int))) ∈ tbl := tbl_m 838 (by decide +kernel) (by decide +kernel)
theorem k_839 : (Cond.methodLink RX11 267 yX11_isWidth) ∈ tbl := tbl_m 839 (by decide +kernel) (by decide +kernel)
theorem k_840 : (Cond.static yX11_isWidth) ∈ tbl := tbl_m 840 (by decide +kernel) (by decide +kernel)
theorem k_841 : (Cond.code yX11_isWidth cX11_isWidth 1 (some (.boolean))) ∈ tbl := tbl_m 841 (by decide +kernel) (by decide +kernel)
theorem k_842 : (Cond.methodLink RL 133 yX11_put) ∈ tbl := tbl_m 842 (by decide +kernel) (by decide +kernel)
theorem k_843 : (Cond.instanceMethod yX11_put) ∈ tbl := tbl_m 843 (by decide +kernel) (by decide +kernel)
theorem k_844 : (Cond.selects RX11 yX11_put yX11_put) ∈ tbl := tbl_m 844 (by decide +kernel) (by decide +kernel)
theorem k_845 : (Cond.code yX11_put cX11_put 4 (some (.int))) ∈ tbl := tbl_m 845 (by decide +kernel) (by decide +kernel)
theorem k_846 : (Cond.methodLink RX11 270 yX11_lowestBits) ∈ tbl := tbl_m 846 (by decide +kernel) (by decide +kernel)
theorem k_847 : (Cond.static yX11_lowestBits) ∈ tbl := tbl_m 847 (by decide +kernel) (by decide +kernel)
theorem k_848 : (Cond.code yX11_lowestBits cX11_lowestBits 2 (some (.int))) ∈ tbl := tbl_m 848 (by decide +kernel) (by decide +kernel)
theorem k_849 : (Cond.methodLink RL 137 yX11_move) ∈ tbl := tbl_m 849 (by decide +kernel) (by decide +kernel)
theorem k_850 : (Cond.instanceMethod yX11_move) ∈ tbl := tbl_m 850 (by decide +kernel) (by decide +kernel)
theorem k_851 : (Cond.selects RX11 yX11_move yX11_move) ∈ tbl := tbl_m 851 (by decide +kernel) (by decide +kernel)
theorem k_852 : (Cond.code yX11_move cX11_move 6 (some (.int))) ∈ tbl := tbl_m 852 (by decide +kernel) (by decide +kernel)
theorem k_853 : (Cond.methodLink RX11 273 yX11_stand) ∈ tbl := tbl_m 853 (by decide +kernel) (by decide +kernel)
theorem k_855 : (Cond.instanceMethod yX11_stand) ∈ tbl := tbl_m 855 (by decide +kernel) (by decide +kernel)
theorem k_856 : (Cond.code yX11_stand cX11_stand 4 (some (.boolean))) ∈ tbl := tbl_m 856 (by decide +kernel) (by decide +kernel)
theorem k_857 : (Cond.methodLink RX11 276 arraycopyName) ∈ tbl := tbl_m 857 (by decide +kernel) (by decide +kernel)
theorem k_858 : (Cond.methodLink RL 142 yX11_flies) ∈ tbl := tbl_m 858 (by decide +kernel) (by decide +kernel)
theorem k_859 : (Cond.instanceMethod yX11_flies) ∈ tbl := tbl_m 859 (by decide +kernel) (by decide +kernel)
theorem k_860 : (Cond.selects RX11 yX11_flies yX11_flies) ∈ tbl := tbl_m 860 (by decide +kernel) (by decide +kernel)
theorem k_861 : (Cond.code yX11_flies cX11_flies 3 (some (.int))) ∈ tbl := tbl_m 861 (by decide +kernel) (by decide +kernel)
theorem k_862 : (Cond.methodLink RL 146 yX11_judge) ∈ tbl := tbl_m 862 (by decide +kernel) (by decide +kernel)
theorem k_863 : (Cond.instanceMethod yX11_judge) ∈ tbl := tbl_m 863 (by decide +kernel) (by decide +kernel)
theorem k_864 : (Cond.selects RX11 yX11_judge yX11_judge) ∈ tbl := tbl_m 864 (by decide +kernel) (by decide +kernel)
theorem k_865 : (Cond.code yX11_judge cX11_judge 3 (some (.int))) ∈ tbl := tbl_m 865 (by decide +kernel) (by decide +kernel)
theorem k_866 : (Cond.methodLink RX11 282 yX4_passMinute) ∈ tbl := tbl_m 866 (by decide +kernel) (by decide +kernel)
theorem k_867 : (Cond.methodLink RL 150 yX11_image) ∈ tbl := tbl_m 867 (by decide +kernel) (by decide +kernel)
theorem k_868 : (Cond.instanceMethod yX11_image) ∈ tbl := tbl_m 868 (by decide +kernel) (by decide +kernel)
theorem k_869 : (Cond.selects RX11 yX11_image yX11_image) ∈ tbl := tbl_m 869 (by decide +kernel) (by decide +kernel)
theorem k_870 : (Cond.code yX11_image cX11_image 1 (some (.int))) ∈ tbl := tbl_m 870 (by decide +kernel) (by decide +kernel)
theorem k_871 : (Cond.methodLink RX11 285 yX5_copyFrom) ∈ tbl := tbl_m 871 (by decide +kernel) (by decide +kernel)
theorem k_872 : (Cond.instanceMethod yX5_copyFrom) ∈ tbl := tbl_m 872 (by decide +kernel) (by decide +kernel)
theorem k_873 : (Cond.selects RX5 yX5_copyFrom yX5_copyFrom) ∈ tbl := tbl_m 873 (by decide +kernel) (by decide +kernel)
theorem k_874 : (Cond.code yX5_copyFrom cX5_copyFrom 2 none) ∈ tbl := tbl_m 874 (by decide +kernel) (by decide +kernel)
theorem k_875 : (Cond.methodLink RX5 44 yX1_copyFrom) ∈ tbl := tbl_m 875 (by decide +kernel) (by decide +kernel)
theorem k_876 : (Cond.instanceMethod yX1_copyFrom) ∈ tbl := tbl_m 876 (by decide +kernel) (by decide +kernel)
theorem k_877 : (Cond.selects RX1 yX1_copyFrom yX1_copyFrom) ∈ tbl := tbl_m 877 (by decide +kernel) (by decide +kernel)
theorem k_878 : (Cond.code yX1_copyFrom cX1_copyFrom 2 none) ∈ tbl := tbl_m 878 (by decide +kernel) (by decide +kernel)
theorem k_879 : (Cond.methodLink RX1 25 arraycopyName) ∈ tbl := tbl_m 879 (by decide +kernel) (by decide +kernel)
theorem k_880 : (Cond.methodLink RX5 48 yX4_copyFrom) ∈ tbl := tbl_m 880 (by decide +kernel) (by decide +kernel)
theorem k_881 : (Cond.methodLink RX5 51 arraycopyName) ∈ tbl := tbl_m 881 (by decide +kernel) (by decide +kernel)
theorem k_882 : (Cond.methodLink RL 154 yX11_restore) ∈ tbl := tbl_m 882 (by decide +kernel) (by decide +kernel)
theorem k_883 : (Cond.instanceMethod yX11_restore) ∈ tbl := tbl_m 883 (by decide +kernel) (by decide +kernel)
theorem k_884 : (Cond.selects RX11 yX11_restore yX11_restore) ∈ tbl := tbl_m 884 (by decide +kernel) (by decide +kernel)
theorem k_885 : (Cond.code yX11_restore cX11_restore 1 (some (.int))) ∈ tbl := tbl_m 885 (by decide +kernel) (by decide +kernel)
theorem k_886 : (Cond.methodLink RL 158 yX11_tell) ∈ tbl := tbl_m 886 (by decide +kernel) (by decide +kernel)
theorem k_887 : (Cond.instanceMethod yX11_tell) ∈ tbl := tbl_m 887 (by decide +kernel) (by decide +kernel)
theorem k_888 : (Cond.selects RX11 yX11_tell yX11_tell) ∈ tbl := tbl_m 888 (by decide +kernel) (by decide +kernel)
theorem k_889 : (Cond.code yX11_tell cX11_tell 2 (some (.int))) ∈ tbl := tbl_m 889 (by decide +kernel) (by decide +kernel)
theorem k_890 : (Cond.methodLink RL 162 yX11_check) ∈ tbl := tbl_m 890 (by decide +kernel) (by decide +kernel)
theorem k_891 : (Cond.instanceMethod yX11_check) ∈ tbl := tbl_m 891 (by decide +kernel) (by decide +kernel)
theorem k_892 : (Cond.selects RX11 yX11_check yX11_check) ∈ tbl := tbl_m 892 (by decide +kernel) (by decide +kernel)
theorem k_893 : (Cond.code yX11_check cX11_check 3 (some (.int))) ∈ tbl := tbl_m 893 (by decide +kernel) (by decide +kernel)
theorem k_894 : (Cond.methodLink RL 166 yX11_count) ∈ tbl := tbl_m 894 (by decide +kernel) (by decide +kernel)
theorem k_895 : (Cond.instanceMethod yX11_count) ∈ tbl := tbl_m 895 (by decide +kernel) (by decide +kernel)
theorem k_896 : (Cond.selects RX11 yX11_count yX11_count) ∈ tbl := tbl_m 896 (by decide +kernel) (by decide +kernel)
theorem k_897 : (Cond.code yX11_count cX11_count 2 (some (.int))) ∈ tbl := tbl_m 897 (by decide +kernel) (by decide +kernel)
theorem k_898 : (Cond.methodLink RX11 294 yX4_allPatience) ∈ tbl := tbl_m 898 (by decide +kernel) (by decide +kernel)
theorem k_899 : (Cond.instanceMethod yX4_allPatience) ∈ tbl := tbl_m 899 (by decide +kernel) (by decide +kernel)
theorem k_900 : (Cond.selects RX4 yX4_allPatience yX4_allPatience) ∈ tbl := tbl_m 900 (by decide +kernel) (by decide +kernel)
theorem k_901 : (Cond.code yX4_allPatience cX4_allPatience 3 (some (.int))) ∈ tbl := tbl_m 901 (by decide +kernel) (by decide +kernel)
theorem k_902 : (Cond.methodLink RL 170 yX11_told) ∈ tbl := tbl_m 902 (by decide +kernel) (by decide +kernel)
theorem k_903 : (Cond.instanceMethod yX11_told) ∈ tbl := tbl_m 903 (by decide +kernel) (by decide +kernel)
theorem k_904 : (Cond.selects RX11 yX11_told yX11_told) ∈ tbl := tbl_m 904 (by decide +kernel) (by decide +kernel)
theorem k_905 : (Cond.code yX11_told cX11_told 2 (some (.int))) ∈ tbl := tbl_m 905 (by decide +kernel) (by decide +kernel)
theorem k_906 : (Cond.classLink RL 10 RX12) ∈ tbl := tbl_m 906 (by decide +kernel) (by decide +kernel)
theorem k_907 : (Cond.instantiable RX12 21) ∈ tbl := tbl_m 907 (by decide +kernel) (by decide +kernel)
theorem k_908 : (Cond.methodLink RL 12 yX12_init) ∈ tbl := tbl_m 908 (by decide +kernel) (by decide +kernel)
theorem k_909 : (Cond.instanceMethod yX12_init) ∈ tbl := tbl_m 909 (by decide +kernel) (by decide +kernel)
theorem k_910 : (Cond.code yX12_init cX12_init 2 none) ∈ tbl := tbl_m 910 (by decide +kernel) (by decide +kernel)
theorem k_911 : (Cond.methodLink RX12 1 Lib.objectInit) ∈ tbl := tbl_m 911 (by decide +kernel) (by decide +kernel)
theorem k_912 : (Cond.methodLink RX12 49 yX12_lays1) ∈ tbl := tbl_m 912 (by decide +kernel) (by decide +kernel)
theorem k_914 : (Cond.instanceMethod yX12_lays1) ∈ tbl := tbl_m 914 (by decide +kernel) (by decide +kernel)
theorem k_915 : (Cond.code yX12_lays1 cX12_lays1 4 none) ∈ tbl := tbl_m 915 (by decide +kernel) (by decide +kernel)
theorem k_916 : (Cond.fieldLink RX12 7 "StandStillModel" "s" "[I") ∈ tbl := tbl_m 916 (by decide +kernel) (by decide +kernel)
theorem k_917 : (Cond.fieldLink RX12 13 "StandStillModel" "kept" "[I") ∈ tbl := tbl_m 917 (by decide +kernel) (by decide +kernel)
theorem k_918 : (Cond.fieldLink RX12 16 "StandStillModel" "layers" "[I") ∈ tbl := tbl_m 918 (by decide +kernel) (by decide +kernel)
theorem k_919 : (Cond.fieldLink RX12 251 "StandStillModel" "images" "I") ∈ tbl := tbl_m 919 (by decide +kernel) (by decide +kernel)
theorem k_920 : (Cond.fieldLink RX12 19 "StandStillModel" "errors" "[I") ∈ tbl := tbl_m 920 (by decide +kernel) (by decide +kernel)
theorem k_921 : (Cond.fieldLink RX12 72 "StandStillModel" "at" "I") ∈ tbl := tbl_m 921 (by decide +kernel) (by decide +kernel)
theorem k_922 : (Cond.fieldLink RX12 106 "StandStillModel" "open" "I") ∈ tbl := tbl_m 922 (by decide +kernel) (by decide +kernel)
theorem k_923 : (Cond.fieldLink RX12 79 "StandStillModel" "steps" "I") ∈ tbl := tbl_m 923 (by decide +kernel) (by decide +kernel)
theorem k_924 : (Cond.fieldLink RX12 76 "StandStillModel" "use" "I") ∈ tbl := tbl_m 924 (by decide +kernel) (by decide +kernel)
theorem k_925 : (Cond.fieldLink RX12 22 "StandStillModel" "step" "[I") ∈ tbl := tbl_m 925 (by decide +kernel) (by decide +kernel)
theorem k_926 : (Cond.fieldLink RX12 25 "StandStillModel" "named" "[I") ∈ tbl := tbl_m 926 (by decide +kernel) (by decide +kernel)
theorem k_927 : (Cond.fieldLink RX12 28 "StandStillModel" "pile" "[I") ∈ tbl := tbl_m 927 (by decide +kernel) (by decide +kernel)
theorem k_928 : (Cond.fieldLink RX12 31 "StandStillModel" "until" "[I") ∈ tbl := tbl_m 928 (by decide +kernel) (by decide +kernel)
theorem k_929 : (Cond.fieldLink RX12 34 "StandStillModel" "trace" "[I") ∈ tbl := tbl_m 929 (by decide +kernel) (by decide +kernel)
theorem k_930 : (Cond.fieldLink RX12 210 "StandStillModel" "traced" "I") ∈ tbl := tbl_m 930 (by decide +kernel) (by decide +kernel)
theorem k_931 : (Cond.fieldLink RX12 213 "StandStillModel" "speaks" "I") ∈ tbl := tbl_m 931 (by decide +kernel) (by decide +kernel)
theorem k_932 : (Cond.fieldLink RX12 237 "StandStillModel" "isParted" "Z") ∈ tbl := tbl_m 932 (by decide +kernel) (by decide +kernel)
theorem k_933 : (Cond.fieldLink RX12 37 "StandStillModel" "bits" "[I") ∈ tbl := tbl_m 933 (by decide +kernel) (by decide +kernel)
theorem k_934 : (Cond.fieldLink RX12 40 "StandStillModel" "sizes" "[I") ∈ tbl := tbl_m 934 (by decide +kernel) (by decide +kernel)
theorem k_935 : (Cond.fieldLink RX12 43 "StandStillModel" "number" "[I") ∈ tbl := tbl_m 935 (by decide +kernel) (by decide +kernel)
theorem k_936 : (Cond.fieldLink RX12 46 "StandStillModel" "aside" "[I") ∈ tbl := tbl_m 936 (by decide +kernel) (by decide +kernel)
theorem k_979 : (Cond.superclass RX12 "java/lang/Object") ∈ tbl := tbl_m 979 (by decide +kernel) (by decide +kernel)
theorem k_980 : (Cond.methodLink RL 53 yX12_feed) ∈ tbl := tbl_m 980 (by decide +kernel) (by decide +kernel)
theorem k_981 : (Cond.instanceMethod yX12_feed) ∈ tbl := tbl_m 981 (by decide +kernel) (by decide +kernel)
theorem k_982 : (Cond.selects RX12 yX12_feed yX12_feed) ∈ tbl := tbl_m 982 (by decide +kernel) (by decide +kernel)
theorem k_983 : (Cond.code yX12_feed cX12_feed 5 (some (.int))) ∈ tbl := tbl_m 983 (by decide +kernel) (by decide +kernel)
theorem k_984 : (Cond.methodLink RX12 54 yX12_in) ∈ tbl := tbl_m 984 (by decide +kernel) (by decide +kernel)
theorem k_985 : (Cond.static yX12_in) ∈ tbl := tbl_m 985 (by decide +kernel) (by decide +kernel)
theorem k_986 : (Cond.code yX12_in cX12_in 3 (some (.boolean))) ∈ tbl := tbl_m 986 (by decide +kernel) (by decide +kernel)
theorem k_987 : (Cond.methodLink RX12 66 yX12_error) ∈ tbl := tbl_m 987 (by decide +kernel) (by decide +kernel)
theorem k_989 : (Cond.instanceMethod yX12_error) ∈ tbl := tbl_m 989 (by decide +kernel) (by decide +kernel)
theorem k_990 : (Cond.code yX12_error cX12_error 2 (some (.int))) ∈ tbl := tbl_m 990 (by decide +kernel) (by decide +kernel)
theorem k_991 : (Cond.constant RX12 53 (-1000000000)) ∈ tbl := tbl_m 991 (by decide +kernel) (by decide +kernel)
theorem k_992 : (Cond.constantLong RX12 70 (255)) ∈ tbl := tbl_m 992 (by decide +kernel) (by decide +kernel)
theorem k_993 : (Cond.methodLink RL 57 yX12_text) ∈ tbl := tbl_m 993 (by decide +kernel) (by decide +kernel)
theorem k_994 : (Cond.instanceMethod yX12_text) ∈ tbl := tbl_m 994 (by decide +kernel) (by decide +kernel)
theorem k_995 : (Cond.selects RX12 yX12_text yX12_text) ∈ tbl := tbl_m 995 (by decide +kernel) (by decide +kernel)
theorem k_996 : (Cond.code yX12_text cX12_text 5 (some (.int))) ∈ tbl := tbl_m 996 (by decide +kernel) (by decide +kernel)
theorem k_997 : (Cond.methodLink RX12 115 yX12_whole) ∈ tbl := tbl_m 997 (by decide +kernel) (by decide +kernel)
theorem k_999 : (Cond.instanceMethod yX12_whole) ∈ tbl := tbl_m 999 (by decide +kernel) (by decide +kernel)
theorem k_1000 : (Cond.code yX12_whole cX12_whole 1 (some (.boolean))) ∈ tbl := tbl_m 1000 (by decide +kernel) (by decide +kernel)
theorem k_1001 : (Cond.methodLink RX12 82 yX12_both) ∈ tbl := tbl_m 1001 (by decide +kernel) (by decide +kernel)
theorem k_1003 : (Cond.instanceMethod yX12_both) ∈ tbl := tbl_m 1003 (by decide +kernel) (by decide +kernel)
theorem k_1004 : (Cond.code yX12_both cX12_both 1 (some (.boolean))) ∈ tbl := tbl_m 1004 (by decide +kernel) (by decide +kernel)
theorem k_1005 : (Cond.methodLink RX12 94 yX12_compared) ∈ tbl := tbl_m 1005 (by decide +kernel) (by decide +kernel)
theorem k_1007 : (Cond.instanceMethod yX12_compared) ∈ tbl := tbl_m 1007 (by decide +kernel) (by decide +kernel)
theorem k_1008 : (Cond.code yX12_compared cX12_compared 2 (some (.boolean))) ∈ tbl := tbl_m 1008 (by decide +kernel) (by decide +kernel)
theorem k_1009 : (Cond.methodLink RX12 97 yX12_sum) ∈ tbl := tbl_m 1009 (by decide +kernel) (by decide +kernel)
theorem k_1011 : (Cond.instanceMethod yX12_sum) ∈ tbl := tbl_m 1011 (by decide +kernel) (by decide +kernel)
theorem k_1012 : (Cond.code yX12_sum cX12_sum 2 (some (.boolean))) ∈ tbl := tbl_m 1012 (by decide +kernel) (by decide +kernel)
theorem k_1013 : (Cond.methodLink RX12 100 yX12_product) ∈ tbl := tbl_m 1013 (by decide +kernel) (by decide +kernel)
theorem k_1015 : (Cond.instanceMethod yX12_product) ∈ tbl := tbl_m 1015 (by decide +kernel) (by decide +kernel)
theorem k_1016 : (Cond.code yX12_product cX12_product 2 (some (.boolean))) ∈ tbl := tbl_m 1016 (by decide +kernel) (by decide +kernel)
theorem k_1017 : (Cond.methodLink RX12 103 yX12_one) ∈ tbl := tbl_m 1017 (by decide +kernel) (by decide +kernel)
theorem k_1019 : (Cond.instanceMethod yX12_one) ∈ tbl := tbl_m 1019 (by decide +kernel) (by decide +kernel)
theorem k_1020 : (Cond.code yX12_one cX12_one 4 (some (.boolean))) ∈ tbl := tbl_m 1020 (by decide +kernel) (by decide +kernel)
theorem k_1021 : (Cond.methodLink RX12 86 yX12_look) ∈ tbl := tbl_m 1021 (by decide +kernel) (by decide +kernel)
theorem k_1023 : (Cond.instanceMethod yX12_look) ∈ tbl := tbl_m 1023 (by decide +kernel) (by decide +kernel)
theorem k_1024 : (Cond.code yX12_look cX12_look 1 (some (.int))) ∈ tbl := tbl_m 1024 (by decide +kernel) (by decide +kernel)
theorem k_1025 : (Cond.methodLink RX12 109 yX12_isName) ∈ tbl := tbl_m 1025 (by decide +kernel) (by decide +kernel)
theorem k_1027 : (Cond.instanceMethod yX12_isName) ∈ tbl := tbl_m 1027 (by decide +kernel) (by decide +kernel)
theorem k_1028 : (Cond.code yX12_isName cX12_isName 2 (some (.boolean))) ∈ tbl := tbl_m 1028 (by decide +kernel) (by decide +kernel)
theorem k_1029 : (Cond.methodLink RX12 90 yX12_step1) ∈ tbl := tbl_m 1029 (by decide +kernel) (by decide +kernel)
theorem k_1031 : (Cond.instanceMethod yX12_step1) ∈ tbl := tbl_m 1031 (by decide +kernel) (by decide +kernel)
theorem k_1032 : (Cond.code yX12_step1 cX12_step1 3 none) ∈ tbl := tbl_m 1032 (by decide +kernel) (by decide +kernel)
theorem k_1033 : (Cond.methodLink RX12 112 yX12_opens) ∈ tbl := tbl_m 1033 (by decide +kernel) (by decide +kernel)
theorem k_1035 : (Cond.instanceMethod yX12_opens) ∈ tbl := tbl_m 1035 (by decide +kernel) (by decide +kernel)
theorem k_1036 : (Cond.code yX12_opens cX12_opens 1 (some (.boolean))) ∈ tbl := tbl_m 1036 (by decide +kernel) (by decide +kernel)
theorem k_1037 : (Cond.methodLink RL 61 yX12_untell) ∈ tbl := tbl_m 1037 (by decide +kernel) (by decide +kernel)
theorem k_1038 : (Cond.instanceMethod yX12_untell) ∈ tbl := tbl_m 1038 (by decide +kernel) (by decide +kernel)
theorem k_1039 : (Cond.selects RX12 yX12_untell yX12_untell) ∈ tbl := tbl_m 1039 (by decide +kernel) (by decide +kernel)
theorem k_1040 : (Cond.code yX12_untell cX12_untell 3 (some (.int))) ∈ tbl := tbl_m 1040 (by decide +kernel) (by decide +kernel)
theorem k_1041 : (Cond.methodLink RX12 118 yX12_hasText) ∈ tbl := tbl_m 1041 (by decide +kernel) (by decide +kernel)
theorem k_1043 : (Cond.instanceMethod yX12_hasText) ∈ tbl := tbl_m 1043 (by decide +kernel) (by decide +kernel)
theorem k_1044 : (Cond.code yX12_hasText cX12_hasText 2 (some (.boolean))) ∈ tbl := tbl_m 1044 (by decide +kernel) (by decide +kernel)
theorem k_1045 : (Cond.methodLink RL 17 yX12_stander) ∈ tbl := tbl_m 1045 (by decide +kernel) (by decide +kernel)
theorem k_1046 : (Cond.instanceMethod yX12_stander) ∈ tbl := tbl_m 1046 (by decide +kernel) (by decide +kernel)
theorem k_1047 : (Cond.selects RX12 yX12_stander yX12_stander) ∈ tbl := tbl_m 1047 (by decide +kernel) (by decide +kernel)
theorem k_1048 : (Cond.code yX12_stander cX12_stander 4 (some (.int))) ∈ tbl := tbl_m 1048 (by decide +kernel) (by decide +kernel)
theorem k_1049 : (Cond.methodLink RX12 159 yX12_isOne) ∈ tbl := tbl_m 1049 (by decide +kernel) (by decide +kernel)
theorem k_1050 : (Cond.static yX12_isOne) ∈ tbl := tbl_m 1050 (by decide +kernel) (by decide +kernel)
theorem k_1051 : (Cond.code yX12_isOne cX12_isOne 1 (some (.boolean))) ∈ tbl := tbl_m 1051 (by decide +kernel) (by decide +kernel)
theorem k_1052 : (Cond.methodLink RX12 58 yX12_its) ∈ tbl := tbl_m 1052 (by decide +kernel) (by decide +kernel)
theorem k_1054 : (Cond.instanceMethod yX12_its) ∈ tbl := tbl_m 1054 (by decide +kernel) (by decide +kernel)
theorem k_1055 : (Cond.code yX12_its cX12_its 3 (some (.int))) ∈ tbl := tbl_m 1055 (by decide +kernel) (by decide +kernel)
theorem k_1056 : (Cond.methodLink RL 21 yX12_standerIs) ∈ tbl := tbl_m 1056 (by decide +kernel) (by decide +kernel)
theorem k_1057 : (Cond.instanceMethod yX12_standerIs) ∈ tbl := tbl_m 1057 (by decide +kernel) (by decide +kernel)
theorem k_1058 : (Cond.selects RX12 yX12_standerIs yX12_standerIs) ∈ tbl := tbl_m 1058 (by decide +kernel) (by decide +kernel)
theorem k_1059 : (Cond.code yX12_standerIs cX12_standerIs 3 (some (.int))) ∈ tbl := tbl_m 1059 (by decide +kernel) (by decide +kernel)
theorem k_1060 : (Cond.methodLink RX12 144 yX12_spends) ∈ tbl := tbl_m 1060 (by decide +kernel) (by decide +kernel)
theorem k_1062 : (Cond.instanceMethod yX12_spends) ∈ tbl := tbl_m 1062 (by decide +kernel) (by decide +kernel)
theorem k_1063 : (Cond.code yX12_spends cX12_spends 4 (some (.int))) ∈ tbl := tbl_m 1063 (by decide +kernel) (by decide +kernel)
theorem k_1064 : (Cond.methodLink RX12 128 yX12_spendsTold) ∈ tbl := tbl_m 1064 (by decide +kernel) (by decide +kernel)
theorem k_1066 : (Cond.instanceMethod yX12_spendsTold) ∈ tbl := tbl_m 1066 (by decide +kernel) (by decide +kernel)
theorem k_1067 : (Cond.code yX12_spendsTold cX12_spendsTold 2 (some (.int))) ∈ tbl := tbl_m 1067 (by decide +kernel) (by decide +kernel)
theorem k_1068 : (Cond.methodLink RX12 125 yX12_worked) ∈ tbl := tbl_m 1068 (by decide +kernel) (by decide +kernel)
theorem k_1070 : (Cond.instanceMethod yX12_worked) ∈ tbl := tbl_m 1070 (by decide +kernel) (by decide +kernel)
theorem k_1071 : (Cond.code yX12_worked cX12_worked 7 (some (.int))) ∈ tbl := tbl_m 1071 (by decide +kernel) (by decide +kernel)
theorem k_1072 : (Cond.methodLink RX12 121 yX12_joined) ∈ tbl := tbl_m 1072 (by decide +kernel) (by decide +kernel)
theorem k_1073 : (Cond.static yX12_joined) ∈ tbl := tbl_m 1073 (by decide +kernel) (by decide +kernel)
theorem k_1074 : (Cond.code yX12_joined cX12_joined 3 (some (.int))) ∈ tbl := tbl_m 1074 (by decide +kernel) (by decide +kernel)
theorem k_1075 : (Cond.methodLink RX12 131 yX12_held) ∈ tbl := tbl_m 1075 (by decide +kernel) (by decide +kernel)
theorem k_1076 : (Cond.static yX12_held) ∈ tbl := tbl_m 1076 (by decide +kernel) (by decide +kernel)
theorem k_1077 : (Cond.code yX12_held cX12_held 3 (some (.int))) ∈ tbl := tbl_m 1077 (by decide +kernel) (by decide +kernel)
theorem k_1078 : (Cond.methodLink RX12 153 yX12_bite) ∈ tbl := tbl_m 1078 (by decide +kernel) (by decide +kernel)
theorem k_1080 : (Cond.instanceMethod yX12_bite) ∈ tbl := tbl_m 1080 (by decide +kernel) (by decide +kernel)
theorem k_1081 : (Cond.code yX12_bite cX12_bite 2 (some (.int))) ∈ tbl := tbl_m 1081 (by decide +kernel) (by decide +kernel)
theorem k_1082 : (Cond.methodLink RL 25 yX12_as) ∈ tbl := tbl_m 1082 (by decide +kernel) (by decide +kernel)
theorem k_1083 : (Cond.instanceMethod yX12_as) ∈ tbl := tbl_m 1083 (by decide +kernel) (by decide +kernel)
theorem k_1084 : (Cond.selects RX12 yX12_as yX12_as) ∈ tbl := tbl_m 1084 (by decide +kernel) (by decide +kernel)
theorem k_1085 : (Cond.code yX12_as cX12_as 3 (some (.int))) ∈ tbl := tbl_m 1085 (by decide +kernel) (by decide +kernel)
theorem k_1086 : (Cond.methodLink RX12 162 yX12_isUnder) ∈ tbl := tbl_m 1086 (by decide +kernel) (by decide +kernel)
theorem k_1087 : (Cond.static yX12_isUnder) ∈ tbl := tbl_m 1087 (by decide +kernel) (by decide +kernel)
theorem k_1088 : (Cond.code yX12_isUnder cX12_isUnder 2 (some (.boolean))) ∈ tbl := tbl_m 1088 (by decide +kernel) (by decide +kernel)
theorem k_1089 : (Cond.methodLink RL 29 yX12_patience) ∈ tbl := tbl_m 1089 (by decide +kernel) (by decide +kernel)
theorem k_1090 : (Cond.instanceMethod yX12_patience) ∈ tbl := tbl_m 1090 (by decide +kernel) (by decide +kernel)
theorem k_1091 : (Cond.selects RX12 yX12_patience yX12_patience) ∈ tbl := tbl_m 1091 (by decide +kernel) (by decide +kernel)
theorem k_1092 : (Cond.code yX12_patience cX12_patience 5 (some (.int))) ∈ tbl := tbl_m 1092 (by decide +kernel) (by decide +kernel)
theorem k_1093 : (Cond.methodLink RX12 62 yX12_stands) ∈ tbl := tbl_m 1093 (by decide +kernel) (by decide +kernel)
theorem k_1095 : (Cond.instanceMethod yX12_stands) ∈ tbl := tbl_m 1095 (by decide +kernel) (by decide +kernel)
theorem k_1096 : (Cond.code yX12_stands cX12_stands 2 (some (.boolean))) ∈ tbl := tbl_m 1096 (by decide +kernel) (by decide +kernel)
theorem k_1097 : (Cond.methodLink RX12 147 yX12_settle) ∈ tbl := tbl_m 1097 (by decide +kernel) (by decide +kernel)
theorem k_1099 : (Cond.instanceMethod yX12_settle) ∈ tbl := tbl_m 1099 (by decide +kernel) (by decide +kernel)
theorem k_1100 : (Cond.code yX12_settle cX12_settle 3 (some (.int))) ∈ tbl := tbl_m 1100 (by decide +kernel) (by decide +kernel)
theorem k_1101 : (Cond.methodLink RX12 140 yX12_stirs) ∈ tbl := tbl_m 1101 (by decide +kernel) (by decide +kernel)
theorem k_1103 : (Cond.instanceMethod yX12_stirs) ∈ tbl := tbl_m 1103 (by decide +kernel) (by decide +kernel)
theorem k_1104 : (Cond.code yX12_stirs cX12_stirs 4 none) ∈ tbl := tbl_m 1104 (by decide +kernel) (by decide +kernel)
theorem k_1105 : (Cond.methodLink RX12 134 yX12_shaken) ∈ tbl := tbl_m 1105 (by decide +kernel) (by decide +kernel)
theorem k_1107 : (Cond.instanceMethod yX12_shaken) ∈ tbl := tbl_m 1107 (by decide +kernel) (by decide +kernel)
theorem k_1108 : (Cond.code yX12_shaken cX12_shaken 4 (some (.int))) ∈ tbl := tbl_m 1108 (by decide +kernel) (by decide +kernel)
theorem k_1109 : (Cond.methodLink RX12 137 yX12_loses) ∈ tbl := tbl_m 1109 (by decide +kernel) (by decide +kernel)
theorem k_1111 : (Cond.instanceMethod yX12_loses) ∈ tbl := tbl_m 1111 (by decide +kernel) (by decide +kernel)
theorem k_1112 : (Cond.code yX12_loses cX12_loses 3 none) ∈ tbl := tbl_m 1112 (by decide +kernel) (by decide +kernel)
theorem k_1113 : (Cond.methodLink RL 33 yX12_swap) ∈ tbl := tbl_m 1113 (by decide +kernel) (by decide +kernel)
theorem k_1114 : (Cond.instanceMethod yX12_swap) ∈ tbl := tbl_m 1114 (by decide +kernel) (by decide +kernel)
theorem k_1115 : (Cond.selects RX12 yX12_swap yX12_swap) ∈ tbl := tbl_m 1115 (by decide +kernel) (by decide +kernel)
theorem k_1116 : (Cond.code yX12_swap cX12_swap 3 (some (.int))) ∈ tbl := tbl_m 1116 (by decide +kernel) (by decide +kernel)
theorem k_1117 : (Cond.methodLink RX12 166 yX12_swaps) ∈ tbl := tbl_m 1117 (by decide +kernel) (by decide +kernel)
theorem k_1119 : (Cond.instanceMethod yX12_swaps) ∈ tbl := tbl_m 1119 (by decide +kernel) (by decide +kernel)
theorem k_1120 : (Cond.code yX12_swaps cX12_swaps 4 none) ∈ tbl := tbl_m 1120 (by decide +kernel) (by decide +kernel)
theorem k_1121 : (Cond.methodLink RL 37 yX12_again) ∈ tbl := tbl_m 1121 (by decide +kernel) (by decide +kernel)
theorem k_1122 : (Cond.instanceMethod yX12_again) ∈ tbl := tbl_m 1122 (by decide +kernel) (by decide +kernel)
theorem k_1123 : (Cond.selects RX12 yX12_again yX12_again) ∈ tbl := tbl_m 1123 (by decide +kernel) (by decide +kernel)
theorem k_1124 : (Cond.code yX12_again cX12_again 3 (some (.int))) ∈ tbl := tbl_m 1124 (by decide +kernel) (by decide +kernel)
theorem k_1125 : (Cond.methodLink RL 42 yX12_sun) ∈ tbl := tbl_m 1125 (by decide +kernel) (by decide +kernel)
theorem k_1126 : (Cond.instanceMethod yX12_sun) ∈ tbl := tbl_m 1126 (by decide +kernel) (by decide +kernel)
theorem k_1127 : (Cond.selects RX12 yX12_sun yX12_sun) ∈ tbl := tbl_m 1127 (by decide +kernel) (by decide +kernel)
theorem k_1128 : (Cond.code yX12_sun cX12_sun 2 (some (.int))) ∈ tbl := tbl_m 1128 (by decide +kernel) (by decide +kernel)
theorem k_1129 : (Cond.methodLink RX12 169 yX12_change1) ∈ tbl := tbl_m 1129 (by decide +kernel) (by decide +kernel)
theorem k_1131 : (Cond.instanceMethod yX12_change1) ∈ tbl := tbl_m 1131 (by decide +kernel) (by decide +kernel)
theorem k_1132 : (Cond.code yX12_change1 cX12_change1 4 (some (.int))) ∈ tbl := tbl_m 1132 (by decide +kernel) (by decide +kernel)
theorem k_1133 : (Cond.methodLink RL 46 yX12_at) ∈ tbl := tbl_m 1133 (by decide +kernel) (by decide +kernel)
theorem k_1134 : (Cond.instanceMethod yX12_at) ∈ tbl := tbl_m 1134 (by decide +kernel) (by decide +kernel)
theorem k_1135 : (Cond.selects RX12 yX12_at yX12_at) ∈ tbl := tbl_m 1135 (by decide +kernel) (by decide +kernel)
theorem k_1136 : (Cond.code yX12_at cX12_at 2 (some (.int))) ∈ tbl := tbl_m 1136 (by decide +kernel) (by decide +kernel)
theorem k_1137 : (Cond.methodLink RX12 150 yX12_standsAt) ∈ tbl := tbl_m 1137 (by decide +kernel) (by decide +kernel)
theorem k_1139 : (Cond.instanceMethod yX12_standsAt) ∈ tbl := tbl_m 1139 (by decide +kernel) (by decide +kernel)
theorem k_1140 : (Cond.code yX12_standsAt cX12_standsAt 3 (some (.int))) ∈ tbl := tbl_m 1140 (by decide +kernel) (by decide +kernel)
theorem k_1141 : (Cond.methodLink RL 65 yX12_minutes) ∈ tbl := tbl_m 1141 (by decide +kernel) (by decide +kernel)
theorem k_1142 : (Cond.instanceMethod yX12_minutes) ∈ tbl := tbl_m 1142 (by decide +kernel) (by decide +kernel)
theorem k_1143 : (Cond.selects RX12 yX12_minutes yX12_minutes) ∈ tbl := tbl_m 1143 (by decide +kernel) (by decide +kernel)
theorem k_1144 : (Cond.code yX12_minutes cX12_minutes 3 (some (.int))) ∈ tbl := tbl_m 1144 (by decide +kernel) (by decide +kernel)
theorem k_1145 : (Cond.methodLink RX12 172 yX12_go) ∈ tbl := tbl_m 1145 (by decide +kernel) (by decide +kernel)
theorem k_1147 : (Cond.instanceMethod yX12_go) ∈ tbl := tbl_m 1147 (by decide +kernel) (by decide +kernel)
theorem k_1148 : (Cond.code yX12_go cX12_go 4 (some (.int))) ∈ tbl := tbl_m 1148 (by decide +kernel) (by decide +kernel)
theorem k_1149 : (Cond.methodLink RX12 156 yX12_minute) ∈ tbl := tbl_m 1149 (by decide +kernel) (by decide +kernel)
theorem k_1151 : (Cond.instanceMethod yX12_minute) ∈ tbl := tbl_m 1151 (by decide +kernel) (by decide +kernel)
theorem k_1152 : (Cond.code yX12_minute cX12_minute 2 (some (.int))) ∈ tbl := tbl_m 1152 (by decide +kernel) (by decide +kernel)
theorem k_1153 : (Cond.methodLink RL 69 yX12_fly) ∈ tbl := tbl_m 1153 (by decide +kernel) (by decide +kernel)
theorem k_1154 : (Cond.instanceMethod yX12_fly) ∈ tbl := tbl_m 1154 (by decide +kernel) (by decide +kernel)
theorem k_1155 : (Cond.selects RX12 yX12_fly yX12_fly) ∈ tbl := tbl_m 1155 (by decide +kernel) (by decide +kernel)
theorem k_1156 : (Cond.code yX12_fly cX12_fly 2 (some (.int))) ∈ tbl := tbl_m 1156 (by decide +kernel) (by decide +kernel)
theorem k_1157 : (Cond.methodLink RX12 175 yX12_flyAt) ∈ tbl := tbl_m 1157 (by decide +kernel) (by decide +kernel)
theorem k_1159 : (Cond.instanceMethod yX12_flyAt) ∈ tbl := tbl_m 1159 (by decide +kernel) (by decide +kernel)
theorem k_1160 : (Cond.code yX12_flyAt cX12_flyAt 3 (some (.int))) ∈ tbl := tbl_m 1160 (by decide +kernel) (by decide +kernel)
theorem k_1161 : (Cond.methodLink RL 73 yX12_poke) ∈ tbl := tbl_m 1161 (by decide +kernel) (by decide +kernel)
theorem k_1162 : (Cond.instanceMethod yX12_poke) ∈ tbl := tbl_m 1162 (by decide +kernel) (by decide +kernel)
theorem k_1163 : (Cond.selects RX12 yX12_poke yX12_poke) ∈ tbl := tbl_m 1163 (by decide +kernel) (by decide +kernel)
theorem k_1164 : (Cond.code yX12_poke cX12_poke 3 (some (.int))) ∈ tbl := tbl_m 1164 (by decide +kernel) (by decide +kernel)
theorem k_1165 : (Cond.methodLink RX12 178 yX12_pokes) ∈ tbl := tbl_m 1165 (by decide +kernel) (by decide +kernel)
theorem k_1167 : (Cond.instanceMethod yX12_pokes) ∈ tbl := tbl_m 1167 (by decide +kernel) (by decide +kernel)
theorem k_1168 : (Cond.code yX12_pokes cX12_pokes 2 (some (.int))) ∈ tbl := tbl_m 1168 (by decide +kernel) (by decide +kernel)
theorem k_1169 : (Cond.methodLink RL 77 yX12_draws) ∈ tbl := tbl_m 1169 (by decide +kernel) (by decide +kernel)
theorem k_1170 : (Cond.instanceMethod yX12_draws) ∈ tbl := tbl_m 1170 (by decide +kernel) (by decide +kernel)
theorem k_1171 : (Cond.selects RX12 yX12_draws yX12_draws) ∈ tbl := tbl_m 1171 (by decide +kernel) (by decide +kernel)
theorem k_1172 : (Cond.code yX12_draws cX12_draws 4 (some (.int))) ∈ tbl := tbl_m 1172 (by decide +kernel) (by decide +kernel)
theorem k_1173 : (Cond.methodLink RX12 182 yX12_draw) ∈ tbl := tbl_m 1173 (by decide +kernel) (by decide +kernel)
theorem k_1175 : (Cond.instanceMethod yX12_draw) ∈ tbl := tbl_m 1175 (by decide +kernel) (by decide +kernel)
theorem k_1176 : (Cond.code yX12_draw cX12_draw 1 (some (.int))) ∈ tbl := tbl_m 1176 (by decide +kernel) (by decide +kernel)
theorem k_1177 : (Cond.constant RX12 181 (1103515245)) ∈ tbl := tbl_m 1177 (by decide +kernel) (by decide +kernel)
theorem k_1178 : (Cond.methodLink RL 81 yX12_seed) ∈ tbl := tbl_m 1178 (by decide +kernel) (by decide +kernel)
theorem k_1179 : (Cond.instanceMethod yX12_seed) ∈ tbl := tbl_m 1179 (by decide +kernel) (by decide +kernel)
theorem k_1180 : (Cond.selects RX12 yX12_seed yX12_seed) ∈ tbl := tbl_m 1180 (by decide +kernel) (by decide +kernel)
theorem k_1181 : (Cond.code yX12_seed cX12_seed 2 (some (.int))) ∈ tbl := tbl_m 1181 (by decide +kernel) (by decide +kernel)
theorem k_1182 : (Cond.methodLink RL 86 yX12_then) ∈ tbl := tbl_m 1182 (by decide +kernel) (by decide +kernel)
theorem k_1183 : (Cond.instanceMethod yX12_then) ∈ tbl := tbl_m 1183 (by decide +kernel) (by decide +kernel)
theorem k_1184 : (Cond.selects RX12 yX12_then yX12_then) ∈ tbl := tbl_m 1184 (by decide +kernel) (by decide +kernel)
theorem k_1185 : (Cond.code yX12_then cX12_then 6 (some (.int))) ∈ tbl := tbl_m 1185 (by decide +kernel) (by decide +kernel)
theorem k_1186 : (Cond.methodLink RX12 185 yX12_layDown) ∈ tbl := tbl_m 1186 (by decide +kernel) (by decide +kernel)
theorem k_1188 : (Cond.instanceMethod yX12_layDown) ∈ tbl := tbl_m 1188 (by decide +kernel) (by decide +kernel)
theorem k_1189 : (Cond.code yX12_layDown cX12_layDown 3 none) ∈ tbl := tbl_m 1189 (by decide +kernel) (by decide +kernel)
theorem k_1190 : (Cond.methodLink RX12 188 yX12_layBack) ∈ tbl := tbl_m 1190 (by decide +kernel) (by decide +kernel)
theorem k_1192 : (Cond.instanceMethod yX12_layBack) ∈ tbl := tbl_m 1192 (by decide +kernel) (by decide +kernel)
theorem k_1193 : (Cond.code yX12_layBack cX12_layBack 3 none) ∈ tbl := tbl_m 1193 (by decide +kernel) (by decide +kernel)
theorem k_1194 : (Cond.methodLink RL 90 yX12_standing) ∈ tbl := tbl_m 1194 (by decide +kernel) (by decide +kernel)
theorem k_1195 : (Cond.instanceMethod yX12_standing) ∈ tbl := tbl_m 1195 (by decide +kernel) (by decide +kernel)
theorem k_1196 : (Cond.selects RX12 yX12_standing yX12_standing) ∈ tbl := tbl_m 1196 (by decide +kernel) (by decide +kernel)
theorem k_1197 : (Cond.code yX12_standing cX12_standing 4 (some (.int))) ∈ tbl := tbl_m 1197 (by decide +kernel) (by decide +kernel)
theorem k_1198 : (Cond.methodLink RX12 191 yX12_howMany) ∈ tbl := tbl_m 1198 (by decide +kernel) (by decide +kernel)
theorem k_1200 : (Cond.instanceMethod yX12_howMany) ∈ tbl := tbl_m 1200 (by decide +kernel) (by decide +kernel)
theorem k_1201 : (Cond.code yX12_howMany cX12_howMany 3 (some (.int))) ∈ tbl := tbl_m 1201 (by decide +kernel) (by decide +kernel)
theorem k_1202 : (Cond.methodLink RL 94 yX12_lasts) ∈ tbl := tbl_m 1202 (by decide +kernel) (by decide +kernel)
theorem k_1203 : (Cond.instanceMethod yX12_lasts) ∈ tbl := tbl_m 1203 (by decide +kernel) (by decide +kernel)
theorem k_1204 : (Cond.selects RX12 yX12_lasts yX12_lasts) ∈ tbl := tbl_m 1204 (by decide +kernel) (by decide +kernel)
theorem k_1205 : (Cond.code yX12_lasts cX12_lasts 3 (some (.int))) ∈ tbl := tbl_m 1205 (by decide +kernel) (by decide +kernel)
theorem k_1206 : (Cond.methodLink RX12 194 yX12_lastAll) ∈ tbl := tbl_m 1206 (by decide +kernel) (by decide +kernel)
theorem k_1208 : (Cond.instanceMethod yX12_lastAll) ∈ tbl := tbl_m 1208 (by decide +kernel) (by decide +kernel)
theorem k_1209 : (Cond.code yX12_lastAll cX12_lastAll 4 none) ∈ tbl := tbl_m 1209 (by decide +kernel) (by decide +kernel)
theorem k_1210 : (Cond.methodLink RL 99 yX12_lastOne) ∈ tbl := tbl_m 1210 (by decide +kernel) (by decide +kernel)
theorem k_1211 : (Cond.instanceMethod yX12_lastOne) ∈ tbl := tbl_m 1211 (by decide +kernel) (by decide +kernel)
theorem k_1212 : (Cond.selects RX12 yX12_lastOne yX12_lastOne) ∈ tbl := tbl_m 1212 (by decide +kernel) (by decide +kernel)
theorem k_1213 : (Cond.code yX12_lastOne cX12_lastOne 3 (some (.int))) ∈ tbl := tbl_m 1213 (by decide +kernel) (by decide +kernel)
theorem k_1214 : (Cond.methodLink RL 103 yX12_round) ∈ tbl := tbl_m 1214 (by decide +kernel) (by decide +kernel)
theorem k_1215 : (Cond.instanceMethod yX12_round) ∈ tbl := tbl_m 1215 (by decide +kernel) (by decide +kernel)
theorem k_1216 : (Cond.selects RX12 yX12_round yX12_round) ∈ tbl := tbl_m 1216 (by decide +kernel) (by decide +kernel)
theorem k_1217 : (Cond.code yX12_round cX12_round 10 (some (.int))) ∈ tbl := tbl_m 1217 (by decide +kernel) (by decide +kernel)
theorem k_1218 : (Cond.methodLink RL 107 yX12_change) ∈ tbl := tbl_m 1218 (by decide +kernel) (by decide +kernel)
theorem k_1219 : (Cond.instanceMethod yX12_change) ∈ tbl := tbl_m 1219 (by decide +kernel) (by decide +kernel)
theorem k_1220 : (Cond.selects RX12 yX12_change yX12_change) ∈ tbl := tbl_m 1220 (by decide +kernel) (by decide +kernel)
theorem k_1221 : (Cond.code yX12_change cX12_change 6 (some (.int))) ∈ tbl := tbl_m 1221 (by decide +kernel) (by decide +kernel)
theorem k_1222 : (Cond.methodLink RL 111 yX12_empties) ∈ tbl := tbl_m 1222 (by decide +kernel) (by decide +kernel)
theorem k_1223 : (Cond.instanceMethod yX12_empties) ∈ tbl := tbl_m 1223 (by decide +kernel) (by decide +kernel)
theorem k_1224 : (Cond.selects RX12 yX12_empties yX12_empties) ∈ tbl := tbl_m 1224 (by decide +kernel) (by decide +kernel)
theorem k_1225 : (Cond.code yX12_empties cX12_empties 7 (some (.int))) ∈ tbl := tbl_m 1225 (by decide +kernel) (by decide +kernel)
theorem k_1226 : (Cond.methodLink RX12 197 yX12_standSet) ∈ tbl := tbl_m 1226 (by decide +kernel) (by decide +kernel)
theorem k_1228 : (Cond.instanceMethod yX12_standSet) ∈ tbl := tbl_m 1228 (by decide +kernel) (by decide +kernel)
theorem k_1229 : (Cond.code yX12_standSet cX12_standSet 3 (some (.int))) ∈ tbl := tbl_m 1229 (by decide +kernel) (by decide +kernel)
theorem k_1230 : (Cond.methodLink RX12 200 yX12_bitsOf) ∈ tbl := tbl_m 1230 (by decide +kernel) (by decide +kernel)
theorem k_1231 : (Cond.static yX12_bitsOf) ∈ tbl := tbl_m 1231 (by decide +kernel) (by decide +kernel)
theorem k_1232 : (Cond.code yX12_bitsOf cX12_bitsOf 3 (some (.int))) ∈ tbl := tbl_m 1232 (by decide +kernel) (by decide +kernel)
theorem k_1233 : (Cond.methodLink RL 115 yX12_whose) ∈ tbl := tbl_m 1233 (by decide +kernel) (by decide +kernel)
theorem k_1234 : (Cond.instanceMethod yX12_whose) ∈ tbl := tbl_m 1234 (by decide +kernel) (by decide +kernel)
theorem k_1235 : (Cond.selects RX12 yX12_whose yX12_whose) ∈ tbl := tbl_m 1235 (by decide +kernel) (by decide +kernel)
theorem k_1236 : (Cond.code yX12_whose cX12_whose 6 (some (.int))) ∈ tbl := tbl_m 1236 (by decide +kernel) (by decide +kernel)
theorem k_1237 : (Cond.methodLink RL 120 yX12_slate) ∈ tbl := tbl_m 1237 (by decide +kernel) (by decide +kernel)
theorem k_1238 : (Cond.instanceMethod yX12_slate) ∈ tbl := tbl_m 1238 (by decide +kernel) (by decide +kernel)
theorem k_1239 : (Cond.selects RX12 yX12_slate yX12_slate) ∈ tbl := tbl_m 1239 (by decide +kernel) (by decide +kernel)
theorem k_1240 : (Cond.code yX12_slate cX12_slate 11 (some (.long))) ∈ tbl := tbl_m 1240 (by decide +kernel) (by decide +kernel)
theorem k_1241 : (Cond.methodLink RX12 203 yX12_isSheet) ∈ tbl := tbl_m 1241 (by decide +kernel) (by decide +kernel)
theorem k_1242 : (Cond.static yX12_isSheet) ∈ tbl := tbl_m 1242 (by decide +kernel) (by decide +kernel)
theorem k_1243 : (Cond.code yX12_isSheet cX12_isSheet 1 (some (.boolean))) ∈ tbl := tbl_m 1243 (by decide +kernel) (by decide +kernel)
theorem k_1244 : (Cond.methodLink RX12 206 yX12_divisor) ∈ tbl := tbl_m 1244 (by decide +kernel) (by decide +kernel)
theorem k_1245 : (Cond.static yX12_divisor) ∈ tbl := tbl_m 1245 (by decide +kernel) (by decide +kernel)
theorem k_1246 : (Cond.code yX12_divisor cX12_divisor 10 (some (.long))) ∈ tbl := tbl_m 1246 (by decide +kernel) (by decide +kernel)
theorem k_1247 : (Cond.methodLink RL 124 yX12_voice) ∈ tbl := tbl_m 1247 (by decide +kernel) (by decide +kernel)
theorem k_1248 : (Cond.instanceMethod yX12_voice) ∈ tbl := tbl_m 1248 (by decide +kernel) (by decide +kernel)
theorem k_1249 : (Cond.selects RX12 yX12_voice yX12_voice) ∈ tbl := tbl_m 1249 (by decide +kernel) (by decide +kernel)
theorem k_1250 : (Cond.code yX12_voice cX12_voice 6 (some (.int))) ∈ tbl := tbl_m 1250 (by decide +kernel) (by decide +kernel)
theorem k_1251 : (Cond.methodLink RX12 225 yX12_kindNow) ∈ tbl := tbl_m 1251 (by decide +kernel) (by decide +kernel)
theorem k_1253 : (Cond.instanceMethod yX12_kindNow) ∈ tbl := tbl_m 1253 (by decide +kernel) (by decide +kernel)
theorem k_1254 : (Cond.code yX12_kindNow cX12_kindNow 1 (some (.int))) ∈ tbl := tbl_m 1254 (by decide +kernel) (by decide +kernel)
theorem k_1255 : (Cond.methodLink RX12 222 yX12_holdsAs) ∈ tbl := tbl_m 1255 (by decide +kernel) (by decide +kernel)
theorem k_1257 : (Cond.instanceMethod yX12_holdsAs) ∈ tbl := tbl_m 1257 (by decide +kernel) (by decide +kernel)
theorem k_1258 : (Cond.code yX12_holdsAs cX12_holdsAs 3 (some (.int))) ∈ tbl := tbl_m 1258 (by decide +kernel) (by decide +kernel)
theorem k_1259 : (Cond.methodLink RX12 216 yX12_begins) ∈ tbl := tbl_m 1259 (by decide +kernel) (by decide +kernel)
theorem k_1261 : (Cond.instanceMethod yX12_begins) ∈ tbl := tbl_m 1261 (by decide +kernel) (by decide +kernel)
theorem k_1262 : (Cond.code yX12_begins cX12_begins 2 none) ∈ tbl := tbl_m 1262 (by decide +kernel) (by decide +kernel)
theorem k_1263 : (Cond.methodLink RX12 219 yX12_above) ∈ tbl := tbl_m 1263 (by decide +kernel) (by decide +kernel)
theorem k_1264 : (Cond.static yX12_above) ∈ tbl := tbl_m 1264 (by decide +kernel) (by decide +kernel)
theorem k_1265 : (Cond.code yX12_above cX12_above 1 (some (.int))) ∈ tbl := tbl_m 1265 (by decide +kernel) (by decide +kernel)
theorem k_1266 : (Cond.methodLink RX12 228 yX12_leansAs) ∈ tbl := tbl_m 1266 (by decide +kernel) (by decide +kernel)
theorem k_1268 : (Cond.instanceMethod yX12_leansAs) ∈ tbl := tbl_m 1268 (by decide +kernel) (by decide +kernel)
theorem k_1269 : (Cond.code yX12_leansAs cX12_leansAs 3 (some (.int))) ∈ tbl := tbl_m 1269 (by decide +kernel) (by decide +kernel)
theorem k_1270 : (Cond.methodLink RX12 231 yX12_mNow) ∈ tbl := tbl_m 1270 (by decide +kernel) (by decide +kernel)
theorem k_1272 : (Cond.instanceMethod yX12_mNow) ∈ tbl := tbl_m 1272 (by decide +kernel) (by decide +kernel)
theorem k_1273 : (Cond.code yX12_mNow cX12_mNow 1 (some (.int))) ∈ tbl := tbl_m 1273 (by decide +kernel) (by decide +kernel)
theorem k_1274 : (Cond.methodLink RX12 234 yX12_swaysAs) ∈ tbl := tbl_m 1274 (by decide +kernel) (by decide +kernel)
theorem k_1276 : (Cond.instanceMethod yX12_swaysAs) ∈ tbl := tbl_m 1276 (by decide +kernel) (by decide +kernel)
theorem k_1277 : (Cond.code yX12_swaysAs cX12_swaysAs 3 (some (.int))) ∈ tbl := tbl_m 1277 (by decide +kernel) (by decide +kernel)
theorem k_1278 : (Cond.methodLink RX12 241 yX12_partsAs) ∈ tbl := tbl_m 1278 (by decide +kernel) (by decide +kernel)
theorem k_1280 : (Cond.instanceMethod yX12_partsAs) ∈ tbl := tbl_m 1280 (by decide +kernel) (by decide +kernel)
theorem k_1281 : (Cond.code yX12_partsAs cX12_partsAs 5 (some (.int))) ∈ tbl := tbl_m 1281 (by decide +kernel) (by decide +kernel)
theorem k_1282 : (Cond.methodLink RL 128 yX12_body) ∈ tbl := tbl_m 1282 (by decide +kernel) (by decide +kernel)
theorem k_1283 : (Cond.instanceMethod yX12_body) ∈ tbl := tbl_m 1283 (by decide +kernel) (by decide +kernel)
theorem k_1284 : (Cond.selects RX12 yX12_body yX12_body) ∈ tbl := tbl_m 1284 (by decide +kernel) (by decide +kernel)
theorem k_1285 : (Cond.code yX12_body cX12_body 2 (some (.int))) ∈ tbl := tbl_m 1285 (by decide +kernel) (by decide +kernel)
theorem k_1286 : (Cond.methodLink RL 132 yX12_sheet) ∈ tbl := tbl_m 1286 (by decide +kernel) (by decide +kernel)
theorem k_1287 : (Cond.instanceMethod yX12_sheet) ∈ tbl := tbl_m 1287 (by decide +kernel) (by decide +kernel)
theorem k_1288 : (Cond.selects RX12 yX12_sheet yX12_sheet) ∈ tbl := tbl_m 1288 (by decide +kernel) (by decide +kernel)
theorem k_1289 : (Cond.code yX12_sheet cX12_sheet 5 (some (.int))) ∈ tbl := tbl_m 1289 (by decide +kernel) (by decide +kernel)
theorem k_1290 : (Cond.methodLink RL 136 yX12_put) ∈ tbl := tbl_m 1290 (by decide +kernel) (by decide +kernel)
theorem k_1291 : (Cond.instanceMethod yX12_put) ∈ tbl := tbl_m 1291 (by decide +kernel) (by decide +kernel)
theorem k_1292 : (Cond.selects RX12 yX12_put yX12_put) ∈ tbl := tbl_m 1292 (by decide +kernel) (by decide +kernel)
theorem k_1293 : (Cond.code yX12_put cX12_put 5 (some (.int))) ∈ tbl := tbl_m 1293 (by decide +kernel) (by decide +kernel)
theorem k_1294 : (Cond.methodLink RL 141 yX12_move) ∈ tbl := tbl_m 1294 (by decide +kernel) (by decide +kernel)
theorem k_1295 : (Cond.instanceMethod yX12_move) ∈ tbl := tbl_m 1295 (by decide +kernel) (by decide +kernel)
theorem k_1296 : (Cond.selects RX12 yX12_move yX12_move) ∈ tbl := tbl_m 1296 (by decide +kernel) (by decide +kernel)
theorem k_1297 : (Cond.code yX12_move cX12_move 7 (some (.int))) ∈ tbl := tbl_m 1297 (by decide +kernel) (by decide +kernel)
theorem k_1298 : (Cond.methodLink RL 145 yX12_flies) ∈ tbl := tbl_m 1298 (by decide +kernel) (by decide +kernel)
theorem k_1299 : (Cond.instanceMethod yX12_flies) ∈ tbl := tbl_m 1299 (by decide +kernel) (by decide +kernel)
theorem k_1300 : (Cond.selects RX12 yX12_flies yX12_flies) ∈ tbl := tbl_m 1300 (by decide +kernel) (by decide +kernel)
theorem k_1301 : (Cond.code yX12_flies cX12_flies 5 (some (.int))) ∈ tbl := tbl_m 1301 (by decide +kernel) (by decide +kernel)
theorem k_1302 : (Cond.methodLink RX12 244 yX12_lacks) ∈ tbl := tbl_m 1302 (by decide +kernel) (by decide +kernel)
theorem k_1304 : (Cond.instanceMethod yX12_lacks) ∈ tbl := tbl_m 1304 (by decide +kernel) (by decide +kernel)
theorem k_1305 : (Cond.code yX12_lacks cX12_lacks 2 (some (.int))) ∈ tbl := tbl_m 1305 (by decide +kernel) (by decide +kernel)
theorem k_1306 : (Cond.methodLink RL 149 yX12_judge) ∈ tbl := tbl_m 1306 (by decide +kernel) (by decide +kernel)
theorem k_1307 : (Cond.instanceMethod yX12_judge) ∈ tbl := tbl_m 1307 (by decide +kernel) (by decide +kernel)
theorem k_1308 : (Cond.selects RX12 yX12_judge yX12_judge) ∈ tbl := tbl_m 1308 (by decide +kernel) (by decide +kernel)
theorem k_1309 : (Cond.code yX12_judge cX12_judge 5 (some (.int))) ∈ tbl := tbl_m 1309 (by decide +kernel) (by decide +kernel)
theorem k_1310 : (Cond.methodLink RL 153 yX12_image) ∈ tbl := tbl_m 1310 (by decide +kernel) (by decide +kernel)
theorem k_1311 : (Cond.instanceMethod yX12_image) ∈ tbl := tbl_m 1311 (by decide +kernel) (by decide +kernel)
theorem k_1312 : (Cond.selects RX12 yX12_image yX12_image) ∈ tbl := tbl_m 1312 (by decide +kernel) (by decide +kernel)
theorem k_1313 : (Cond.code yX12_image cX12_image 1 (some (.int))) ∈ tbl := tbl_m 1313 (by decide +kernel) (by decide +kernel)
theorem k_1314 : (Cond.methodLink RX12 247 yX12_carry) ∈ tbl := tbl_m 1314 (by decide +kernel) (by decide +kernel)
theorem k_1315 : (Cond.static yX12_carry) ∈ tbl := tbl_m 1315 (by decide +kernel) (by decide +kernel)
theorem k_1316 : (Cond.code yX12_carry cX12_carry 3 none) ∈ tbl := tbl_m 1316 (by decide +kernel) (by decide +kernel)
theorem k_1317 : (Cond.methodLink RL 157 yX12_restore) ∈ tbl := tbl_m 1317 (by decide +kernel) (by decide +kernel)
theorem k_1318 : (Cond.instanceMethod yX12_restore) ∈ tbl := tbl_m 1318 (by decide +kernel) (by decide +kernel)
theorem k_1319 : (Cond.selects RX12 yX12_restore yX12_restore) ∈ tbl := tbl_m 1319 (by decide +kernel) (by decide +kernel)
theorem k_1320 : (Cond.code yX12_restore cX12_restore 1 (some (.int))) ∈ tbl := tbl_m 1320 (by decide +kernel) (by decide +kernel)
theorem k_1321 : (Cond.methodLink RL 161 yX12_tell) ∈ tbl := tbl_m 1321 (by decide +kernel) (by decide +kernel)
theorem k_1322 : (Cond.instanceMethod yX12_tell) ∈ tbl := tbl_m 1322 (by decide +kernel) (by decide +kernel)
theorem k_1323 : (Cond.selects RX12 yX12_tell yX12_tell) ∈ tbl := tbl_m 1323 (by decide +kernel) (by decide +kernel)
theorem k_1324 : (Cond.code yX12_tell cX12_tell 2 (some (.int))) ∈ tbl := tbl_m 1324 (by decide +kernel) (by decide +kernel)
theorem k_1325 : (Cond.methodLink RL 165 yX12_check) ∈ tbl := tbl_m 1325 (by decide +kernel) (by decide +kernel)
theorem k_1326 : (Cond.instanceMethod yX12_check) ∈ tbl := tbl_m 1326 (by decide +kernel) (by decide +kernel)
theorem k_1327 : (Cond.selects RX12 yX12_check yX12_check) ∈ tbl := tbl_m 1327 (by decide +kernel) (by decide +kernel)
theorem k_1328 : (Cond.code yX12_check cX12_check 4 (some (.int))) ∈ tbl := tbl_m 1328 (by decide +kernel) (by decide +kernel)
theorem k_1329 : (Cond.methodLink RL 169 yX12_count) ∈ tbl := tbl_m 1329 (by decide +kernel) (by decide +kernel)
theorem k_1330 : (Cond.instanceMethod yX12_count) ∈ tbl := tbl_m 1330 (by decide +kernel) (by decide +kernel)
theorem k_1331 : (Cond.selects RX12 yX12_count yX12_count) ∈ tbl := tbl_m 1331 (by decide +kernel) (by decide +kernel)
theorem k_1332 : (Cond.code yX12_count cX12_count 4 (some (.int))) ∈ tbl := tbl_m 1332 (by decide +kernel) (by decide +kernel)
theorem k_1333 : (Cond.methodLink RL 173 yX12_told) ∈ tbl := tbl_m 1333 (by decide +kernel) (by decide +kernel)
theorem k_1334 : (Cond.instanceMethod yX12_told) ∈ tbl := tbl_m 1334 (by decide +kernel) (by decide +kernel)
theorem k_1335 : (Cond.selects RX12 yX12_told yX12_told) ∈ tbl := tbl_m 1335 (by decide +kernel) (by decide +kernel)
theorem k_1336 : (Cond.code yX12_told cX12_told 2 (some (.int))) ∈ tbl := tbl_m 1336 (by decide +kernel) (by decide +kernel)
theorem k_1337 : (Cond.constantLong RL 47 (4294967295)) ∈ tbl := tbl_m 1337 (by decide +kernel) (by decide +kernel)
theorem k_1338 : (Cond.sameMethod RX0 RX0 "spending" "(LStandStill$Row;I)I") ∈ tbl := tbl_m 1338 (by decide +kernel) (by decide +kernel)
theorem k_1339 : (Cond.sameMethod RX0 RX0 "biting" "(I)I") ∈ tbl := tbl_m 1339 (by decide +kernel) (by decide +kernel)
theorem k_1340 : (Cond.sameMethod RX0 RX0 "holds" "(LStandStill$Speaker;I)I") ∈ tbl := tbl_m 1340 (by decide +kernel) (by decide +kernel)
theorem k_1341 : (Cond.sameMethod RX2 RX2 "leans" "(LStandStill$Speaker;I)I") ∈ tbl := tbl_m 1341 (by decide +kernel) (by decide +kernel)
theorem hdV_X11_again : yX11_again.cls = RX11 ∧ yX11_again.cls ≠ "java/lang/invoke/MethodHandle" ∧ yX11_again.cls ≠ "java/lang/invoke/VarHandle" ∧ (parseMethodDescriptor yX11_again.desc).map (fun d => d.parameters.length) = some 2 := by decide +kernel
theorem hdS_X11_again : yX11_again.cls ≠ "java/lang/invoke/MethodHandle" ∧ yX11_again.cls ≠ "java/lang/invoke/VarHandle" ∧ (parseMethodDescriptor yX11_again.desc).map (fun d => d.parameters.length) = some 2 := by decide +kernel
theorem hdV_X11_as : yX11_as.cls = RX11 ∧ yX11_as.cls ≠ "java/lang/invoke/MethodHandle" ∧ yX11_as.cls ≠ "java/lang/invoke/VarHandle" ∧ (parseMethodDescriptor yX11_as.desc).map (fun d => d.parameters.length) = some 2 := by decide +kernel
theorem hdS_X11_as : yX11_as.cls ≠ "java/lang/invoke/MethodHandle" ∧ yX11_as.cls ≠ "java/lang/invoke/VarHandle" ∧ (parseMethodDescriptor yX11_as.desc).map (fun d => d.parameters.length) = some 2 := by decide +kernel
theorem hdV_X11_at : yX11_at.cls = RX11 ∧ yX11_at.cls ≠ "java/lang/invoke/MethodHandle" ∧ yX11_at.cls ≠ "java/lang/invoke/VarHandle" ∧ (parseMethodDescriptor yX11_at.desc).map (fun d => d.parameters.length) = some 1 := by decide +kernel
theorem hdS_X11_at : yX11_at.cls ≠ "java/lang/invoke/MethodHandle" ∧ yX11_at.cls ≠ "java/lang/invoke/VarHandle" ∧ (parseMethodDescriptor yX11_at.desc).map (fun d => d.parameters.length) = some 1 := by decide +kernel
theorem hdV_X11_bestRound : yX11_bestRound.cls = RX11 ∧ yX11_bestRound.cls ≠ "java/lang/invoke/MethodHandle" ∧ yX11_bestRound.cls ≠ "java/lang/invoke/VarHandle" ∧ (parseMethodDescriptor yX11_bestRound.desc).map (fun d => d.parameters.length) = some 2 := by decide +kernel
theorem hdS_X11_bestRound : yX11_bestRound.cls ≠ "java/lang/invoke/MethodHandle" ∧ yX11_bestRound.cls ≠ "java/lang/invoke/VarHandle" ∧ (parseMethodDescriptor yX11_bestRound.desc).map (fun d => d.parameters.length) = some 2 := by decide +kernel
theorem hdV_X11_body : yX11_body.cls = RX11 ∧ yX11_body.cls ≠ "java/lang/invoke/MethodHandle" ∧ yX11_body.cls ≠ "java/lang/invoke/VarHandle" ∧ (parseMethodDescriptor yX11_body.desc).map (fun d => d.parameters.length) = some 1 := by decide +kernel
theorem hdS_X11_body : yX11_body.cls ≠ "java/lang/invoke/MethodHandle" ∧ yX11_body.cls ≠ "java/lang/invoke/VarHandle" ∧ (parseMethodDescriptor yX11_body.desc).map (fun d => d.parameters.length) = some 1 := by decide +kernel
theorem hdV_X11_change : yX11_change.cls = RX11 ∧ yX11_change.cls ≠ "java/lang/invoke/MethodHandle" ∧ yX11_change.cls ≠ "java/lang/invoke/VarHandle" ∧ (parseMethodDescriptor yX11_change.desc).map (fun d => d.parameters.length) = some 2 := by decide +kernel
theorem hdS_X11_change : yX11_change.cls ≠ "java/lang/invoke/MethodHandle" ∧ yX11_change.cls ≠ "java/lang/invoke/VarHandle" ∧ (parseMethodDescriptor yX11_change.desc).map (fun d => d.parameters.length) = some 2 := by decide +kernel
theorem hdV_X11_check : yX11_check.cls = RX11 ∧ yX11_check.cls ≠ "java/lang/invoke/MethodHandle" ∧ yX11_check.cls ≠ "java/lang/invoke/VarHandle" ∧ (parseMethodDescriptor yX11_check.desc).map (fun d => d.parameters.length) = some 0 := by decide +kernel
theorem hdS_X11_check : yX11_check.cls ≠ "java/lang/invoke/MethodHandle" ∧ yX11_check.cls ≠ "java/lang/invoke/VarHandle" ∧ (parseMethodDescriptor yX11_check.desc).map (fun d => d.parameters.length) = some 0 := by decide +kernel
theorem hdV_X11_commonDivisor : yX11_commonDivisor.cls = RX11 ∧ yX11_commonDivisor.cls ≠ "java/lang/invoke/MethodHandle" ∧ yX11_commonDivisor.cls ≠ "java/lang/invoke/VarHandle" ∧ (parseMethodDescriptor yX11_commonDivisor.desc).map (fun d => d.parameters.length) = some 2 := by decide +kernel
theorem hdS_X11_commonDivisor : yX11_commonDivisor.cls ≠ "java/lang/invoke/MethodHandle" ∧ yX11_commonDivisor.cls ≠ "java/lang/invoke/VarHandle" ∧ (parseMethodDescriptor yX11_commonDivisor.desc).map (fun d => d.parameters.length) = some 2 := by decide +kernel
theorem hdV_X11_count : yX11_count.cls = RX11 ∧ yX11_count.cls ≠ "java/lang/invoke/MethodHandle" ∧ yX11_count.cls ≠ "java/lang/invoke/VarHandle" ∧ (parseMethodDescriptor yX11_count.desc).map (fun d => d.parameters.length) = some 1 := by decide +kernel
theorem hdS_X11_count : yX11_count.cls ≠ "java/lang/invoke/MethodHandle" ∧ yX11_count.cls ≠ "java/lang/invoke/VarHandle" ∧ (parseMethodDescriptor yX11_count.desc).map (fun d => d.parameters.length) = some 1 := by decide +kernel
theorem hdV_X11_draws : yX11_draws.cls = RX11 ∧ yX11_draws.cls ≠ "java/lang/invoke/MethodHandle" ∧ yX11_draws.cls ≠ "java/lang/invoke/VarHandle" ∧ (parseMethodDescriptor yX11_draws.desc).map (fun d => d.parameters.length) = some 1 := by decide +kernel
theorem hdS_X11_draws : yX11_draws.cls ≠ "java/lang/invoke/MethodHandle" ∧ yX11_draws.cls ≠ "java/lang/invoke/VarHandle" ∧ (parseMethodDescriptor yX11_draws.desc).map (fun d => d.parameters.length) = some 1 := by decide +kernel
theorem hdV_X11_empties : yX11_empties.cls = RX11 ∧ yX11_empties.cls ≠ "java/lang/invoke/MethodHandle" ∧ yX11_empties.cls ≠ "java/lang/invoke/VarHandle" ∧ (parseMethodDescriptor yX11_empties.desc).map (fun d => d.parameters.length) = some 1 := by decide +kernel
theorem hdS_X11_empties : yX11_empties.cls ≠ "java/lang/invoke/MethodHandle" ∧ yX11_empties.cls ≠ "java/lang/invoke/VarHandle" ∧ (parseMethodDescriptor yX11_empties.desc).map (fun d => d.parameters.length) = some 1 := by decide +kernel
theorem hdV_X11_fails : yX11_fails.cls = RX11 ∧ yX11_fails.cls ≠ "java/lang/invoke/MethodHandle" ∧ yX11_fails.cls ≠ "java/lang/invoke/VarHandle" ∧ (parseMethodDescriptor yX11_fails.desc).map (fun d => d.parameters.length) = some 1 := by decide +kernel
theorem hdS_X11_fails : yX11_fails.cls ≠ "java/lang/invoke/MethodHandle" ∧ yX11_fails.cls ≠ "java/lang/invoke/VarHandle" ∧ (parseMethodDescriptor yX11_fails.desc).map (fun d => d.parameters.length) = some 1 := by decide +kernel
theorem hdV_X11_feed : yX11_feed.cls = RX11 ∧ yX11_feed.cls ≠ "java/lang/invoke/MethodHandle" ∧ yX11_feed.cls ≠ "java/lang/invoke/VarHandle" ∧ (parseMethodDescriptor yX11_feed.desc).map (fun d => d.parameters.length) = some 2 := by decide +kernel
theorem hdS_X11_feed : yX11_feed.cls ≠ "java/lang/invoke/MethodHandle" ∧ yX11_feed.cls ≠ "java/lang/invoke/VarHandle" ∧ (parseMethodDescriptor yX11_feed.desc).map (fun d => d.parameters.length) = some 2 := by decide +kernel
theorem hdV_X11_figures : yX11_figures.cls = RX11 ∧ yX11_figures.cls ≠ "java/lang/invoke/MethodHandle" ∧ yX11_figures.cls ≠ "java/lang/invoke/VarHandle" ∧ (parseMethodDescriptor yX11_figures.desc).map (fun d => d.parameters.length) = some 2 := by decide +kernel
theorem hdS_X11_figures : yX11_figures.cls ≠ "java/lang/invoke/MethodHandle" ∧ yX11_figures.cls ≠ "java/lang/invoke/VarHandle" ∧ (parseMethodDescriptor yX11_figures.desc).map (fun d => d.parameters.length) = some 2 := by decide +kernel
theorem hdV_X11_flies : yX11_flies.cls = RX11 ∧ yX11_flies.cls ≠ "java/lang/invoke/MethodHandle" ∧ yX11_flies.cls ≠ "java/lang/invoke/VarHandle" ∧ (parseMethodDescriptor yX11_flies.desc).map (fun d => d.parameters.length) = some 1 := by decide +kernel
theorem hdS_X11_flies : yX11_flies.cls ≠ "java/lang/invoke/MethodHandle" ∧ yX11_flies.cls ≠ "java/lang/invoke/VarHandle" ∧ (parseMethodDescriptor yX11_flies.desc).map (fun d => d.parameters.length) = some 1 := by decide +kernel
theorem hdV_X11_fly : yX11_fly.cls = RX11 ∧ yX11_fly.cls ≠ "java/lang/invoke/MethodHandle" ∧ yX11_fly.cls ≠ "java/lang/invoke/VarHandle" ∧ (parseMethodDescriptor yX11_fly.desc).map (fun d => d.parameters.length) = some 1 := by decide +kernel
theorem hdS_X11_fly : yX11_fly.cls ≠ "java/lang/invoke/MethodHandle" ∧ yX11_fly.cls ≠ "java/lang/invoke/VarHandle" ∧ (parseMethodDescriptor yX11_fly.desc).map (fun d => d.parameters.length) = some 1 := by decide +kernel
theorem hdV_X11_flyRow : yX11_flyRow.cls = RX11 ∧ yX11_flyRow.cls ≠ "java/lang/invoke/MethodHandle" ∧ yX11_flyRow.cls ≠ "java/lang/invoke/VarHandle" ∧ (parseMethodDescriptor yX11_flyRow.desc).map (fun d => d.parameters.length) = some 2 := by decide +kernel
theorem hdS_X11_flyRow : yX11_flyRow.cls ≠ "java/lang/invoke/MethodHandle" ∧ yX11_flyRow.cls ≠ "java/lang/invoke/VarHandle" ∧ (parseMethodDescriptor yX11_flyRow.desc).map (fun d => d.parameters.length) = some 2 := by decide +kernel
theorem hdV_X11_image : yX11_image.cls = RX11 ∧ yX11_image.cls ≠ "java/lang/invoke/MethodHandle" ∧ yX11_image.cls ≠ "java/lang/invoke/VarHandle" ∧ (parseMethodDescriptor yX11_image.desc).map (fun d => d.parameters.length) = some 0 := by decide +kernel
theorem hdS_X11_image : yX11_image.cls ≠ "java/lang/invoke/MethodHandle" ∧ yX11_image.cls ≠ "java/lang/invoke/VarHandle" ∧ (parseMethodDescriptor yX11_image.desc).map (fun d => d.parameters.length) = some 0 := by decide +kernel
theorem hdV_X11_isEmptiedBy : yX11_isEmptiedBy.cls = RX11 ∧ yX11_isEmptiedBy.cls ≠ "java/lang/invoke/MethodHandle" ∧ yX11_isEmptiedBy.cls ≠ "java/lang/invoke/VarHandle" ∧ (parseMethodDescriptor yX11_isEmptiedBy.desc).map (fun d => d.parameters.length) = some 1 := by decide +kernel
theorem hdS_X11_isEmptiedBy : yX11_isEmptiedBy.cls ≠ "java/lang/invoke/MethodHandle" ∧ yX11_isEmptiedBy.cls ≠ "java/lang/invoke/VarHandle" ∧ (parseMethodDescriptor yX11_isEmptiedBy.desc).map (fun d => d.parameters.length) = some 1 := by decide +kernel
theorem hdV_X11_isMissing : yX11_isMissing.cls = RX11 ∧ yX11_isMissing.cls ≠ "java/lang/invoke/MethodHandle" ∧ yX11_isMissing.cls ≠ "java/lang/invoke/VarHandle" ∧ (parseMethodDescriptor yX11_isMissing.desc).map (fun d => d.parameters.length) = some 1 := by decide +kernel
theorem hdS_X11_isMissing : yX11_isMissing.cls ≠ "java/lang/invoke/MethodHandle" ∧ yX11_isMissing.cls ≠ "java/lang/invoke/VarHandle" ∧ (parseMethodDescriptor yX11_isMissing.desc).map (fun d => d.parameters.length) = some 1 := by decide +kernel
theorem hdV_X11_isOf : yX11_isOf.cls = RX11 ∧ yX11_isOf.cls ≠ "java/lang/invoke/MethodHandle" ∧ yX11_isOf.cls ≠ "java/lang/invoke/VarHandle" ∧ (parseMethodDescriptor yX11_isOf.desc).map (fun d => d.parameters.length) = some 2 := by decide +kernel
theorem hdS_X11_isOf : yX11_isOf.cls ≠ "java/lang/invoke/MethodHandle" ∧ yX11_isOf.cls ≠ "java/lang/invoke/VarHandle" ∧ (parseMethodDescriptor yX11_isOf.desc).map (fun d => d.parameters.length) = some 2 := by decide +kernel
theorem hdV_X11_isPost : yX11_isPost.cls = RX11 ∧ yX11_isPost.cls ≠ "java/lang/invoke/MethodHandle" ∧ yX11_isPost.cls ≠ "java/lang/invoke/VarHandle" ∧ (parseMethodDescriptor yX11_isPost.desc).map (fun d => d.parameters.length) = some 1 := by decide +kernel
theorem hdS_X11_isPost : yX11_isPost.cls ≠ "java/lang/invoke/MethodHandle" ∧ yX11_isPost.cls ≠ "java/lang/invoke/VarHandle" ∧ (parseMethodDescriptor yX11_isPost.desc).map (fun d => d.parameters.length) = some 1 := by decide +kernel
theorem hdV_X11_isSheet : yX11_isSheet.cls = RX11 ∧ yX11_isSheet.cls ≠ "java/lang/invoke/MethodHandle" ∧ yX11_isSheet.cls ≠ "java/lang/invoke/VarHandle" ∧ (parseMethodDescriptor yX11_isSheet.desc).map (fun d => d.parameters.length) = some 1 := by decide +kernel
theorem hdS_X11_isSheet : yX11_isSheet.cls ≠ "java/lang/invoke/MethodHandle" ∧ yX11_isSheet.cls ≠ "java/lang/invoke/VarHandle" ∧ (parseMethodDescriptor yX11_isSheet.desc).map (fun d => d.parameters.length) = some 1 := by decide +kernel
theorem hdV_X11_isStander : yX11_isStander.cls = RX11 ∧ yX11_isStander.cls ≠ "java/lang/invoke/MethodHandle" ∧ yX11_isStander.cls ≠ "java/lang/invoke/VarHandle" ∧ (parseMethodDescriptor yX11_isStander.desc).map (fun d => d.parameters.length) = some 1 := by decide +kernel
theorem hdS_X11_isStander : yX11_isStander.cls ≠ "java/lang/invoke/MethodHandle" ∧ yX11_isStander.cls ≠ "java/lang/invoke/VarHandle" ∧ (parseMethodDescriptor yX11_isStander.desc).map (fun d => d.parameters.length) = some 1 := by decide +kernel
theorem hdV_X11_isWidth : yX11_isWidth.cls = RX11 ∧ yX11_isWidth.cls ≠ "java/lang/invoke/MethodHandle" ∧ yX11_isWidth.cls ≠ "java/lang/invoke/VarHandle" ∧ (parseMethodDescriptor yX11_isWidth.desc).map (fun d => d.parameters.length) = some 1 := by decide +kernel
theorem hdS_X11_isWidth : yX11_isWidth.cls ≠ "java/lang/invoke/MethodHandle" ∧ yX11_isWidth.cls ≠ "java/lang/invoke/VarHandle" ∧ (parseMethodDescriptor yX11_isWidth.desc).map (fun d => d.parameters.length) = some 1 := by decide +kernel
theorem hdV_X11_judge : yX11_judge.cls = RX11 ∧ yX11_judge.cls ≠ "java/lang/invoke/MethodHandle" ∧ yX11_judge.cls ≠ "java/lang/invoke/VarHandle" ∧ (parseMethodDescriptor yX11_judge.desc).map (fun d => d.parameters.length) = some 1 := by decide +kernel
theorem hdS_X11_judge : yX11_judge.cls ≠ "java/lang/invoke/MethodHandle" ∧ yX11_judge.cls ≠ "java/lang/invoke/VarHandle" ∧ (parseMethodDescriptor yX11_judge.desc).map (fun d => d.parameters.length) = some 1 := by decide +kernel
theorem hdV_X11_lastOne : yX11_lastOne.cls = RX11 ∧ yX11_lastOne.cls ≠ "java/lang/invoke/MethodHandle" ∧ yX11_lastOne.cls ≠ "java/lang/invoke/VarHandle" ∧ (parseMethodDescriptor yX11_lastOne.desc).map (fun d => d.parameters.length) = some 0 := by decide +kernel
theorem hdS_X11_lastOne : yX11_lastOne.cls ≠ "java/lang/invoke/MethodHandle" ∧ yX11_lastOne.cls ≠ "java/lang/invoke/VarHandle" ∧ (parseMethodDescriptor yX11_lastOne.desc).map (fun d => d.parameters.length) = some 0 := by decide +kernel
theorem hdV_X11_lasts : yX11_lasts.cls = RX11 ∧ yX11_lasts.cls ≠ "java/lang/invoke/MethodHandle" ∧ yX11_lasts.cls ≠ "java/lang/invoke/VarHandle" ∧ (parseMethodDescriptor yX11_lasts.desc).map (fun d => d.parameters.length) = some 1 := by decide +kernel
theorem hdS_X11_lasts : yX11_lasts.cls ≠ "java/lang/invoke/MethodHandle" ∧ yX11_lasts.cls ≠ "java/lang/invoke/VarHandle" ∧ (parseMethodDescriptor yX11_lasts.desc).map (fun d => d.parameters.length) = some 1 := by decide +kernel
theorem hdV_X11_lookAhead : yX11_lookAhead.cls = RX11 ∧ yX11_lookAhead.cls ≠ "java/lang/invoke/MethodHandle" ∧ yX11_lookAhead.cls ≠ "java/lang/invoke/VarHandle" ∧ (parseMethodDescriptor yX11_lookAhead.desc).map (fun d => d.parameters.length) = some 1 := by decide +kernel
theorem hdS_X11_lookAhead : yX11_lookAhead.cls ≠ "java/lang/invoke/MethodHandle" ∧ yX11_lookAhead.cls ≠ "java/lang/invoke/VarHandle" ∧ (parseMethodDescriptor yX11_lookAhead.desc).map (fun d => d.parameters.length) = some 1 := by decide +kernel
theorem hdV_X11_lowestBits : yX11_lowestBits.cls = RX11 ∧ yX11_lowestBits.cls ≠ "java/lang/invoke/MethodHandle" ∧ yX11_lowestBits.cls ≠ "java/lang/invoke/VarHandle" ∧ (parseMethodDescriptor yX11_lowestBits.desc).map (fun d => d.parameters.length) = some 2 := by decide +kernel
theorem hdS_X11_lowestBits : yX11_lowestBits.cls ≠ "java/lang/invoke/MethodHandle" ∧ yX11_lowestBits.cls ≠ "java/lang/invoke/VarHandle" ∧ (parseMethodDescriptor yX11_lowestBits.desc).map (fun d => d.parameters.length) = some 2 := by decide +kernel
theorem hdV_X11_minutes : yX11_minutes.cls = RX11 ∧ yX11_minutes.cls ≠ "java/lang/invoke/MethodHandle" ∧ yX11_minutes.cls ≠ "java/lang/invoke/VarHandle" ∧ (parseMethodDescriptor yX11_minutes.desc).map (fun d => d.parameters.length) = some 1 := by decide +kernel
theorem hdS_X11_minutes : yX11_minutes.cls ≠ "java/lang/invoke/MethodHandle" ∧ yX11_minutes.cls ≠ "java/lang/invoke/VarHandle" ∧ (parseMethodDescriptor yX11_minutes.desc).map (fun d => d.parameters.length) = some 1 := by decide +kernel
theorem hdV_X11_move : yX11_move.cls = RX11 ∧ yX11_move.cls ≠ "java/lang/invoke/MethodHandle" ∧ yX11_move.cls ≠ "java/lang/invoke/VarHandle" ∧ (parseMethodDescriptor yX11_move.desc).map (fun d => d.parameters.length) = some 5 := by decide +kernel
theorem hdS_X11_move : yX11_move.cls ≠ "java/lang/invoke/MethodHandle" ∧ yX11_move.cls ≠ "java/lang/invoke/VarHandle" ∧ (parseMethodDescriptor yX11_move.desc).map (fun d => d.parameters.length) = some 5 := by decide +kernel
theorem hdV_X11_patience : yX11_patience.cls = RX11 ∧ yX11_patience.cls ≠ "java/lang/invoke/MethodHandle" ∧ yX11_patience.cls ≠ "java/lang/invoke/VarHandle" ∧ (parseMethodDescriptor yX11_patience.desc).map (fun d => d.parameters.length) = some 2 := by decide +kernel
theorem hdS_X11_patience : yX11_patience.cls ≠ "java/lang/invoke/MethodHandle" ∧ yX11_patience.cls ≠ "java/lang/invoke/VarHandle" ∧ (parseMethodDescriptor yX11_patience.desc).map (fun d => d.parameters.length) = some 2 := by decide +kernel
theorem hdV_X11_poke : yX11_poke.cls = RX11 ∧ yX11_poke.cls ≠ "java/lang/invoke/MethodHandle" ∧ yX11_poke.cls ≠ "java/lang/invoke/VarHandle" ∧ (parseMethodDescriptor yX11_poke.desc).map (fun d => d.parameters.length) = some 1 := by decide +kernel
theorem hdS_X11_poke : yX11_poke.cls ≠ "java/lang/invoke/MethodHandle" ∧ yX11_poke.cls ≠ "java/lang/invoke/VarHandle" ∧ (parseMethodDescriptor yX11_poke.desc).map (fun d => d.parameters.length) = some 1 := by decide +kernel
theorem hdV_X11_put : yX11_put.cls = RX11 ∧ yX11_put.cls ≠ "java/lang/invoke/MethodHandle" ∧ yX11_put.cls ≠ "java/lang/invoke/VarHandle" ∧ (parseMethodDescriptor yX11_put.desc).map (fun d => d.parameters.length) = some 3 := by decide +kernel
theorem hdS_X11_put : yX11_put.cls ≠ "java/lang/invoke/MethodHandle" ∧ yX11_put.cls ≠ "java/lang/invoke/VarHandle" ∧ (parseMethodDescriptor yX11_put.desc).map (fun d => d.parameters.length) = some 3 := by decide +kernel
theorem hdV_X11_restore : yX11_restore.cls = RX11 ∧ yX11_restore.cls ≠ "java/lang/invoke/MethodHandle" ∧ yX11_restore.cls ≠ "java/lang/invoke/VarHandle" ∧ (parseMethodDescriptor yX11_restore.desc).map (fun d => d.parameters.length) = some 0 := by decide +kernel
theorem hdS_X11_restore : yX11_restore.cls ≠ "java/lang/invoke/MethodHandle" ∧ yX11_restore.cls ≠ "java/lang/invoke/VarHandle" ∧ (parseMethodDescriptor yX11_restore.desc).map (fun d => d.parameters.length) = some 0 := by decide +kernel
theorem hdV_X11_round : yX11_round.cls = RX11 ∧ yX11_round.cls ≠ "java/lang/invoke/MethodHandle" ∧ yX11_round.cls ≠ "java/lang/invoke/VarHandle" ∧ (parseMethodDescriptor yX11_round.desc).map (fun d => d.parameters.length) = some 3 := by decide +kernel
theorem hdS_X11_round : yX11_round.cls ≠ "java/lang/invoke/MethodHandle" ∧ yX11_round.cls ≠ "java/lang/invoke/VarHandle" ∧ (parseMethodDescriptor yX11_round.desc).map (fun d => d.parameters.length) = some 3 := by decide +kernel
theorem hdV_X11_seed : yX11_seed.cls = RX11 ∧ yX11_seed.cls ≠ "java/lang/invoke/MethodHandle" ∧ yX11_seed.cls ≠ "java/lang/invoke/VarHandle" ∧ (parseMethodDescriptor yX11_seed.desc).map (fun d => d.parameters.length) = some 1 := by decide +kernel
theorem hdS_X11_seed : yX11_seed.cls ≠ "java/lang/invoke/MethodHandle" ∧ yX11_seed.cls ≠ "java/lang/invoke/VarHandle" ∧ (parseMethodDescriptor yX11_seed.desc).map (fun d => d.parameters.length) = some 1 := by decide +kernel
theorem hdV_X11_sheet : yX11_sheet.cls = RX11 ∧ yX11_sheet.cls ≠ "java/lang/invoke/MethodHandle" ∧ yX11_sheet.cls ≠ "java/lang/invoke/VarHandle" ∧ (parseMethodDescriptor yX11_sheet.desc).map (fun d => d.parameters.length) = some 3 := by decide +kernel
theorem hdS_X11_sheet : yX11_sheet.cls ≠ "java/lang/invoke/MethodHandle" ∧ yX11_sheet.cls ≠ "java/lang/invoke/VarHandle" ∧ (parseMethodDescriptor yX11_sheet.desc).map (fun d => d.parameters.length) = some 3 := by decide +kernel
theorem hdV_X11_slate : yX11_slate.cls = RX11 ∧ yX11_slate.cls ≠ "java/lang/invoke/MethodHandle" ∧ yX11_slate.cls ≠ "java/lang/invoke/VarHandle" ∧ (parseMethodDescriptor yX11_slate.desc).map (fun d => d.parameters.length) = some 2 := by decide +kernel
theorem hdS_X11_slate : yX11_slate.cls ≠ "java/lang/invoke/MethodHandle" ∧ yX11_slate.cls ≠ "java/lang/invoke/VarHandle" ∧ (parseMethodDescriptor yX11_slate.desc).map (fun d => d.parameters.length) = some 2 := by decide +kernel
theorem hdV_X11_stand : yX11_stand.cls = RX11 ∧ yX11_stand.cls ≠ "java/lang/invoke/MethodHandle" ∧ yX11_stand.cls ≠ "java/lang/invoke/VarHandle" ∧ (parseMethodDescriptor yX11_stand.desc).map (fun d => d.parameters.length) = some 3 := by decide +kernel
theorem hdS_X11_stand : yX11_stand.cls ≠ "java/lang/invoke/MethodHandle" ∧ yX11_stand.cls ≠ "java/lang/invoke/VarHandle" ∧ (parseMethodDescriptor yX11_stand.desc).map (fun d => d.parameters.length) = some 3 := by decide +kernel
theorem hdV_X11_stander : yX11_stander.cls = RX11 ∧ yX11_stander.cls ≠ "java/lang/invoke/MethodHandle" ∧ yX11_stander.cls ≠ "java/lang/invoke/VarHandle" ∧ (parseMethodDescriptor yX11_stander.desc).map (fun d => d.parameters.length) = some 2 := by decide +kernel
theorem hdS_X11_stander : yX11_stander.cls ≠ "java/lang/invoke/MethodHandle" ∧ yX11_stander.cls ≠ "java/lang/invoke/VarHandle" ∧ (parseMethodDescriptor yX11_stander.desc).map (fun d => d.parameters.length) = some 2 := by decide +kernel
theorem hdV_X11_standerIs : yX11_standerIs.cls = RX11 ∧ yX11_standerIs.cls ≠ "java/lang/invoke/MethodHandle" ∧ yX11_standerIs.cls ≠ "java/lang/invoke/VarHandle" ∧ (parseMethodDescriptor yX11_standerIs.desc).map (fun d => d.parameters.length) = some 2 := by decide +kernel
theorem hdS_X11_standerIs : yX11_standerIs.cls ≠ "java/lang/invoke/MethodHandle" ∧ yX11_standerIs.cls ≠ "java/lang/invoke/VarHandle" ∧ (parseMethodDescriptor yX11_standerIs.desc).map (fun d => d.parameters.length) = some 2 := by decide +kernel
theorem hdV_X11_standing : yX11_standing.cls = RX11 ∧ yX11_standing.cls ≠ "java/lang/invoke/MethodHandle" ∧ yX11_standing.cls ≠ "java/lang/invoke/VarHandle" ∧ (parseMethodDescriptor yX11_standing.desc).map (fun d => d.parameters.length) = some 1 := by decide +kernel
theorem hdS_X11_standing : yX11_standing.cls ≠ "java/lang/invoke/MethodHandle" ∧ yX11_standing.cls ≠ "java/lang/invoke/VarHandle" ∧ (parseMethodDescriptor yX11_standing.desc).map (fun d => d.parameters.length) = some 1 := by decide +kernel
theorem hdV_X11_sun : yX11_sun.cls = RX11 ∧ yX11_sun.cls ≠ "java/lang/invoke/MethodHandle" ∧ yX11_sun.cls ≠ "java/lang/invoke/VarHandle" ∧ (parseMethodDescriptor yX11_sun.desc).map (fun d => d.parameters.length) = some 1 := by decide +kernel
theorem hdS_X11_sun : yX11_sun.cls ≠ "java/lang/invoke/MethodHandle" ∧ yX11_sun.cls ≠ "java/lang/invoke/VarHandle" ∧ (parseMethodDescriptor yX11_sun.desc).map (fun d => d.parameters.length) = some 1 := by decide +kernel
theorem hdV_X11_swap : yX11_swap.cls = RX11 ∧ yX11_swap.cls ≠ "java/lang/invoke/MethodHandle" ∧ yX11_swap.cls ≠ "java/lang/invoke/VarHandle" ∧ (parseMethodDescriptor yX11_swap.desc).map (fun d => d.parameters.length) = some 2 := by decide +kernel
theorem hdS_X11_swap : yX11_swap.cls ≠ "java/lang/invoke/MethodHandle" ∧ yX11_swap.cls ≠ "java/lang/invoke/VarHandle" ∧ (parseMethodDescriptor yX11_swap.desc).map (fun d => d.parameters.length) = some 2 := by decide +kernel
theorem hdV_X11_tell : yX11_tell.cls = RX11 ∧ yX11_tell.cls ≠ "java/lang/invoke/MethodHandle" ∧ yX11_tell.cls ≠ "java/lang/invoke/VarHandle" ∧ (parseMethodDescriptor yX11_tell.desc).map (fun d => d.parameters.length) = some 1 := by decide +kernel
theorem hdS_X11_tell : yX11_tell.cls ≠ "java/lang/invoke/MethodHandle" ∧ yX11_tell.cls ≠ "java/lang/invoke/VarHandle" ∧ (parseMethodDescriptor yX11_tell.desc).map (fun d => d.parameters.length) = some 1 := by decide +kernel
theorem hdV_X11_text : yX11_text.cls = RX11 ∧ yX11_text.cls ≠ "java/lang/invoke/MethodHandle" ∧ yX11_text.cls ≠ "java/lang/invoke/VarHandle" ∧ (parseMethodDescriptor yX11_text.desc).map (fun d => d.parameters.length) = some 1 := by decide +kernel
theorem hdS_X11_text : yX11_text.cls ≠ "java/lang/invoke/MethodHandle" ∧ yX11_text.cls ≠ "java/lang/invoke/VarHandle" ∧ (parseMethodDescriptor yX11_text.desc).map (fun d => d.parameters.length) = some 1 := by decide +kernel
theorem hdV_X11_then : yX11_then.cls = RX11 ∧ yX11_then.cls ≠ "java/lang/invoke/MethodHandle" ∧ yX11_then.cls ≠ "java/lang/invoke/VarHandle" ∧ (parseMethodDescriptor yX11_then.desc).map (fun d => d.parameters.length) = some 3 := by decide +kernel
theorem hdS_X11_then : yX11_then.cls ≠ "java/lang/invoke/MethodHandle" ∧ yX11_then.cls ≠ "java/lang/invoke/VarHandle" ∧ (parseMethodDescriptor yX11_then.desc).map (fun d => d.parameters.length) = some 3 := by decide +kernel
theorem hdV_X11_told : yX11_told.cls = RX11 ∧ yX11_told.cls ≠ "java/lang/invoke/MethodHandle" ∧ yX11_told.cls ≠ "java/lang/invoke/VarHandle" ∧ (parseMethodDescriptor yX11_told.desc).map (fun d => d.parameters.length) = some 1 := by decide +kernel
theorem hdS_X11_told : yX11_told.cls ≠ "java/lang/invoke/MethodHandle" ∧ yX11_told.cls ≠ "java/lang/invoke/VarHandle" ∧ (parseMethodDescriptor yX11_told.desc).map (fun d => d.parameters.length) = some 1 := by decide +kernel
theorem hdV_X11_untell : yX11_untell.cls = RX11 ∧ yX11_untell.cls ≠ "java/lang/invoke/MethodHandle" ∧ yX11_untell.cls ≠ "java/lang/invoke/VarHandle" ∧ (parseMethodDescriptor yX11_untell.desc).map (fun d => d.parameters.length) = some 1 := by decide +kernel
theorem hdS_X11_untell : yX11_untell.cls ≠ "java/lang/invoke/MethodHandle" ∧ yX11_untell.cls ≠ "java/lang/invoke/VarHandle" ∧ (parseMethodDescriptor yX11_untell.desc).map (fun d => d.parameters.length) = some 1 := by decide +kernel
theorem hdV_X11_voice : yX11_voice.cls = RX11 ∧ yX11_voice.cls ≠ "java/lang/invoke/MethodHandle" ∧ yX11_voice.cls ≠ "java/lang/invoke/VarHandle" ∧ (parseMethodDescriptor yX11_voice.desc).map (fun d => d.parameters.length) = some 3 := by decide +kernel
theorem hdS_X11_voice : yX11_voice.cls ≠ "java/lang/invoke/MethodHandle" ∧ yX11_voice.cls ≠ "java/lang/invoke/VarHandle" ∧ (parseMethodDescriptor yX11_voice.desc).map (fun d => d.parameters.length) = some 3 := by decide +kernel
theorem hdV_X11_whose : yX11_whose.cls = RX11 ∧ yX11_whose.cls ≠ "java/lang/invoke/MethodHandle" ∧ yX11_whose.cls ≠ "java/lang/invoke/VarHandle" ∧ (parseMethodDescriptor yX11_whose.desc).map (fun d => d.parameters.length) = some 1 := by decide +kernel
theorem hdS_X11_whose : yX11_whose.cls ≠ "java/lang/invoke/MethodHandle" ∧ yX11_whose.cls ≠ "java/lang/invoke/VarHandle" ∧ (parseMethodDescriptor yX11_whose.desc).map (fun d => d.parameters.length) = some 1 := by decide +kernel
theorem hdV_X11_within : yX11_within.cls = RX11 ∧ yX11_within.cls ≠ "java/lang/invoke/MethodHandle" ∧ yX11_within.cls ≠ "java/lang/invoke/VarHandle" ∧ (parseMethodDescriptor yX11_within.desc).map (fun d => d.parameters.length) = some 3 := by decide +kernel
theorem hdS_X11_within : yX11_within.cls ≠ "java/lang/invoke/MethodHandle" ∧ yX11_within.cls ≠ "java/lang/invoke/VarHandle" ∧ (parseMethodDescriptor yX11_within.desc).map (fun d => d.parameters.length) = some 3 := by decide +kernel
theorem hdV_X0_biting : yX0_biting.cls = RX0 ∧ yX0_biting.cls ≠ "java/lang/invoke/MethodHandle" ∧ yX0_biting.cls ≠ "java/lang/invoke/VarHandle" ∧ (parseMethodDescriptor yX0_biting.desc).map (fun d => d.parameters.length) = some 1 := by decide +kernel
theorem hdS_X0_biting : yX0_biting.cls ≠ "java/lang/invoke/MethodHandle" ∧ yX0_biting.cls ≠ "java/lang/invoke/VarHandle" ∧ (parseMethodDescriptor yX0_biting.desc).map (fun d => d.parameters.length) = some 1 := by decide +kernel
theorem hdSU_X0_biting : yX0_biting.name ≠ "<init>" ∧ (parseMethodDescriptor yX0_biting.desc).map (fun d => d.parameters.length) = some 1 := by decide +kernel
theorem hdV_X0_holds : yX0_holds.cls = RX0 ∧ yX0_holds.cls ≠ "java/lang/invoke/MethodHandle" ∧ yX0_holds.cls ≠ "java/lang/invoke/VarHandle" ∧ (parseMethodDescriptor yX0_holds.desc).map (fun d => d.parameters.length) = some 2 := by decide +kernel
theorem hdS_X0_holds : yX0_holds.cls ≠ "java/lang/invoke/MethodHandle" ∧ yX0_holds.cls ≠ "java/lang/invoke/VarHandle" ∧ (parseMethodDescriptor yX0_holds.desc).map (fun d => d.parameters.length) = some 2 := by decide +kernel
theorem hdSU_X0_holds : yX0_holds.name ≠ "<init>" ∧ (parseMethodDescriptor yX0_holds.desc).map (fun d => d.parameters.length) = some 2 := by decide +kernel
theorem hdV_X0_parts : yX0_parts.cls = RX0 ∧ yX0_parts.cls ≠ "java/lang/invoke/MethodHandle" ∧ yX0_parts.cls ≠ "java/lang/invoke/VarHandle" ∧ (parseMethodDescriptor yX0_parts.desc).map (fun d => d.parameters.length) = some 2 := by decide +kernel
theorem hdS_X0_parts : yX0_parts.cls ≠ "java/lang/invoke/MethodHandle" ∧ yX0_parts.cls ≠ "java/lang/invoke/VarHandle" ∧ (parseMethodDescriptor yX0_parts.desc).map (fun d => d.parameters.length) = some 2 := by decide +kernel
theorem hdSU_X0_parts : yX0_parts.name ≠ "<init>" ∧ (parseMethodDescriptor yX0_parts.desc).map (fun d => d.parameters.length) = some 2 := by decide +kernel
theorem hdV_X0_spending : yX0_spending.cls = RX0 ∧ yX0_spending.cls ≠ "java/lang/invoke/MethodHandle" ∧ yX0_spending.cls ≠ "java/lang/invoke/VarHandle" ∧ (parseMethodDescriptor yX0_spending.desc).map (fun d => d.parameters.length) = some 2 := by decide +kernel
theorem hdS_X0_spending : yX0_spending.cls ≠ "java/lang/invoke/MethodHandle" ∧ yX0_spending.cls ≠ "java/lang/invoke/VarHandle" ∧ (parseMethodDescriptor yX0_spending.desc).map (fun d => d.parameters.length) = some 2 := by decide +kernel
theorem hdSU_X0_spending : yX0_spending.name ≠ "<init>" ∧ (parseMethodDescriptor yX0_spending.desc).map (fun d => d.parameters.length) = some 2 := by decide +kernel
theorem hdV_X1_copyFrom : yX1_copyFrom.cls = RX1 ∧ yX1_copyFrom.cls ≠ "java/lang/invoke/MethodHandle" ∧ yX1_copyFrom.cls ≠ "java/lang/invoke/VarHandle" ∧ (parseMethodDescriptor yX1_copyFrom.desc).map (fun d => d.parameters.length) = some 1 := by decide +kernel
theorem hdS_X1_copyFrom : yX1_copyFrom.cls ≠ "java/lang/invoke/MethodHandle" ∧ yX1_copyFrom.cls ≠ "java/lang/invoke/VarHandle" ∧ (parseMethodDescriptor yX1_copyFrom.desc).map (fun d => d.parameters.length) = some 1 := by decide +kernel
theorem hdSU_X1_copyFrom : yX1_copyFrom.name ≠ "<init>" ∧ (parseMethodDescriptor yX1_copyFrom.desc).map (fun d => d.parameters.length) = some 1 := by decide +kernel
theorem hdV_X1_forget : yX1_forget.cls = RX1 ∧ yX1_forget.cls ≠ "java/lang/invoke/MethodHandle" ∧ yX1_forget.cls ≠ "java/lang/invoke/VarHandle" ∧ (parseMethodDescriptor yX1_forget.desc).map (fun d => d.parameters.length) = some 0 := by decide +kernel
theorem hdS_X1_forget : yX1_forget.cls ≠ "java/lang/invoke/MethodHandle" ∧ yX1_forget.cls ≠ "java/lang/invoke/VarHandle" ∧ (parseMethodDescriptor yX1_forget.desc).map (fun d => d.parameters.length) = some 0 := by decide +kernel
theorem hdSU_X1_forget : yX1_forget.name ≠ "<init>" ∧ (parseMethodDescriptor yX1_forget.desc).map (fun d => d.parameters.length) = some 0 := by decide +kernel
theorem hdV_X1_gives : yX1_gives.cls = RX1 ∧ yX1_gives.cls ≠ "java/lang/invoke/MethodHandle" ∧ yX1_gives.cls ≠ "java/lang/invoke/VarHandle" ∧ (parseMethodDescriptor yX1_gives.desc).map (fun d => d.parameters.length) = some 3 := by decide +kernel
theorem hdS_X1_gives : yX1_gives.cls ≠ "java/lang/invoke/MethodHandle" ∧ yX1_gives.cls ≠ "java/lang/invoke/VarHandle" ∧ (parseMethodDescriptor yX1_gives.desc).map (fun d => d.parameters.length) = some 3 := by decide +kernel
theorem hdSU_X1_gives : yX1_gives.name ≠ "<init>" ∧ (parseMethodDescriptor yX1_gives.desc).map (fun d => d.parameters.length) = some 3 := by decide +kernel
theorem hdV_X1_isMissing : yX1_isMissing.cls = RX1 ∧ yX1_isMissing.cls ≠ "java/lang/invoke/MethodHandle" ∧ yX1_isMissing.cls ≠ "java/lang/invoke/VarHandle" ∧ (parseMethodDescriptor yX1_isMissing.desc).map (fun d => d.parameters.length) = some 0 := by decide +kernel
theorem hdS_X1_isMissing : yX1_isMissing.cls ≠ "java/lang/invoke/MethodHandle" ∧ yX1_isMissing.cls ≠ "java/lang/invoke/VarHandle" ∧ (parseMethodDescriptor yX1_isMissing.desc).map (fun d => d.parameters.length) = some 0 := by decide +kernel
theorem hdSU_X1_isMissing : yX1_isMissing.name ≠ "<init>" ∧ (parseMethodDescriptor yX1_isMissing.desc).map (fun d => d.parameters.length) = some 0 := by decide +kernel
theorem hdV_X1_joined : yX1_joined.cls = RX1 ∧ yX1_joined.cls ≠ "java/lang/invoke/MethodHandle" ∧ yX1_joined.cls ≠ "java/lang/invoke/VarHandle" ∧ (parseMethodDescriptor yX1_joined.desc).map (fun d => d.parameters.length) = some 3 := by decide +kernel
theorem hdS_X1_joined : yX1_joined.cls ≠ "java/lang/invoke/MethodHandle" ∧ yX1_joined.cls ≠ "java/lang/invoke/VarHandle" ∧ (parseMethodDescriptor yX1_joined.desc).map (fun d => d.parameters.length) = some 3 := by decide +kernel
theorem hdSU_X1_joined : yX1_joined.name ≠ "<init>" ∧ (parseMethodDescriptor yX1_joined.desc).map (fun d => d.parameters.length) = some 3 := by decide +kernel
theorem hdV_X1_nextSign : yX1_nextSign.cls = RX1 ∧ yX1_nextSign.cls ≠ "java/lang/invoke/MethodHandle" ∧ yX1_nextSign.cls ≠ "java/lang/invoke/VarHandle" ∧ (parseMethodDescriptor yX1_nextSign.desc).map (fun d => d.parameters.length) = some 0 := by decide +kernel
theorem hdS_X1_nextSign : yX1_nextSign.cls ≠ "java/lang/invoke/MethodHandle" ∧ yX1_nextSign.cls ≠ "java/lang/invoke/VarHandle" ∧ (parseMethodDescriptor yX1_nextSign.desc).map (fun d => d.parameters.length) = some 0 := by decide +kernel
theorem hdSU_X1_nextSign : yX1_nextSign.name ≠ "<init>" ∧ (parseMethodDescriptor yX1_nextSign.desc).map (fun d => d.parameters.length) = some 0 := by decide +kernel
theorem hdV_X1_read : yX1_read.cls = RX1 ∧ yX1_read.cls ≠ "java/lang/invoke/MethodHandle" ∧ yX1_read.cls ≠ "java/lang/invoke/VarHandle" ∧ (parseMethodDescriptor yX1_read.desc).map (fun d => d.parameters.length) = some 2 := by decide +kernel
theorem hdS_X1_read : yX1_read.cls ≠ "java/lang/invoke/MethodHandle" ∧ yX1_read.cls ≠ "java/lang/invoke/VarHandle" ∧ (parseMethodDescriptor yX1_read.desc).map (fun d => d.parameters.length) = some 2 := by decide +kernel
theorem hdSU_X1_read : yX1_read.name ≠ "<init>" ∧ (parseMethodDescriptor yX1_read.desc).map (fun d => d.parameters.length) = some 2 := by decide +kernel
theorem hdV_X1_readBoth : yX1_readBoth.cls = RX1 ∧ yX1_readBoth.cls ≠ "java/lang/invoke/MethodHandle" ∧ yX1_readBoth.cls ≠ "java/lang/invoke/VarHandle" ∧ (parseMethodDescriptor yX1_readBoth.desc).map (fun d => d.parameters.length) = some 1 := by decide +kernel
theorem hdS_X1_readBoth : yX1_readBoth.cls ≠ "java/lang/invoke/MethodHandle" ∧ yX1_readBoth.cls ≠ "java/lang/invoke/VarHandle" ∧ (parseMethodDescriptor yX1_readBoth.desc).map (fun d => d.parameters.length) = some 1 := by decide +kernel
theorem hdSU_X1_readBoth : yX1_readBoth.name ≠ "<init>" ∧ (parseMethodDescriptor yX1_readBoth.desc).map (fun d => d.parameters.length) = some 1 := by decide +kernel
theorem hdV_X1_readBracket : yX1_readBracket.cls = RX1 ∧ yX1_readBracket.cls ≠ "java/lang/invoke/MethodHandle" ∧ yX1_readBracket.cls ≠ "java/lang/invoke/VarHandle" ∧ (parseMethodDescriptor yX1_readBracket.desc).map (fun d => d.parameters.length) = some 1 := by decide +kernel
theorem hdS_X1_readBracket : yX1_readBracket.cls ≠ "java/lang/invoke/MethodHandle" ∧ yX1_readBracket.cls ≠ "java/lang/invoke/VarHandle" ∧ (parseMethodDescriptor yX1_readBracket.desc).map (fun d => d.parameters.length) = some 1 := by decide +kernel
theorem hdSU_X1_readBracket : yX1_readBracket.name ≠ "<init>" ∧ (parseMethodDescriptor yX1_readBracket.desc).map (fun d => d.parameters.length) = some 1 := by decide +kernel
theorem hdV_X1_readCompared : yX1_readCompared.cls = RX1 ∧ yX1_readCompared.cls ≠ "java/lang/invoke/MethodHandle" ∧ yX1_readCompared.cls ≠ "java/lang/invoke/VarHandle" ∧ (parseMethodDescriptor yX1_readCompared.desc).map (fun d => d.parameters.length) = some 1 := by decide +kernel
theorem hdS_X1_readCompared : yX1_readCompared.cls ≠ "java/lang/invoke/MethodHandle" ∧ yX1_readCompared.cls ≠ "java/lang/invoke/VarHandle" ∧ (parseMethodDescriptor yX1_readCompared.desc).map (fun d => d.parameters.length) = some 1 := by decide +kernel
theorem hdSU_X1_readCompared : yX1_readCompared.name ≠ "<init>" ∧ (parseMethodDescriptor yX1_readCompared.desc).map (fun d => d.parameters.length) = some 1 := by decide +kernel
theorem hdV_X1_readEither : yX1_readEither.cls = RX1 ∧ yX1_readEither.cls ≠ "java/lang/invoke/MethodHandle" ∧ yX1_readEither.cls ≠ "java/lang/invoke/VarHandle" ∧ (parseMethodDescriptor yX1_readEither.desc).map (fun d => d.parameters.length) = some 1 := by decide +kernel
theorem hdS_X1_readEither : yX1_readEither.cls ≠ "java/lang/invoke/MethodHandle" ∧ yX1_readEither.cls ≠ "java/lang/invoke/VarHandle" ∧ (parseMethodDescriptor yX1_readEither.desc).map (fun d => d.parameters.length) = some 1 := by decide +kernel
theorem hdSU_X1_readEither : yX1_readEither.name ≠ "<init>" ∧ (parseMethodDescriptor yX1_readEither.desc).map (fun d => d.parameters.length) = some 1 := by decide +kernel
theorem hdV_X1_readNumber : yX1_readNumber.cls = RX1 ∧ yX1_readNumber.cls ≠ "java/lang/invoke/MethodHandle" ∧ yX1_readNumber.cls ≠ "java/lang/invoke/VarHandle" ∧ (parseMethodDescriptor yX1_readNumber.desc).map (fun d => d.parameters.length) = some 0 := by decide +kernel
theorem hdS_X1_readNumber : yX1_readNumber.cls ≠ "java/lang/invoke/MethodHandle" ∧ yX1_readNumber.cls ≠ "java/lang/invoke/VarHandle" ∧ (parseMethodDescriptor yX1_readNumber.desc).map (fun d => d.parameters.length) = some 0 := by decide +kernel
theorem hdSU_X1_readNumber : yX1_readNumber.name ≠ "<init>" ∧ (parseMethodDescriptor yX1_readNumber.desc).map (fun d => d.parameters.length) = some 0 := by decide +kernel
theorem hdV_X1_readProduct : yX1_readProduct.cls = RX1 ∧ yX1_readProduct.cls ≠ "java/lang/invoke/MethodHandle" ∧ yX1_readProduct.cls ≠ "java/lang/invoke/VarHandle" ∧ (parseMethodDescriptor yX1_readProduct.desc).map (fun d => d.parameters.length) = some 1 := by decide +kernel
theorem hdS_X1_readProduct : yX1_readProduct.cls ≠ "java/lang/invoke/MethodHandle" ∧ yX1_readProduct.cls ≠ "java/lang/invoke/VarHandle" ∧ (parseMethodDescriptor yX1_readProduct.desc).map (fun d => d.parameters.length) = some 1 := by decide +kernel
theorem hdSU_X1_readProduct : yX1_readProduct.name ≠ "<init>" ∧ (parseMethodDescriptor yX1_readProduct.desc).map (fun d => d.parameters.length) = some 1 := by decide +kernel
theorem hdV_X1_readSum : yX1_readSum.cls = RX1 ∧ yX1_readSum.cls ≠ "java/lang/invoke/MethodHandle" ∧ yX1_readSum.cls ≠ "java/lang/invoke/VarHandle" ∧ (parseMethodDescriptor yX1_readSum.desc).map (fun d => d.parameters.length) = some 1 := by decide +kernel
theorem hdS_X1_readSum : yX1_readSum.cls ≠ "java/lang/invoke/MethodHandle" ∧ yX1_readSum.cls ≠ "java/lang/invoke/VarHandle" ∧ (parseMethodDescriptor yX1_readSum.desc).map (fun d => d.parameters.length) = some 1 := by decide +kernel
theorem hdSU_X1_readSum : yX1_readSum.name ≠ "<init>" ∧ (parseMethodDescriptor yX1_readSum.desc).map (fun d => d.parameters.length) = some 1 := by decide +kernel
theorem hdV_X1_readUnit : yX1_readUnit.cls = RX1 ∧ yX1_readUnit.cls ≠ "java/lang/invoke/MethodHandle" ∧ yX1_readUnit.cls ≠ "java/lang/invoke/VarHandle" ∧ (parseMethodDescriptor yX1_readUnit.desc).map (fun d => d.parameters.length) = some 1 := by decide +kernel
theorem hdS_X1_readUnit : yX1_readUnit.cls ≠ "java/lang/invoke/MethodHandle" ∧ yX1_readUnit.cls ≠ "java/lang/invoke/VarHandle" ∧ (parseMethodDescriptor yX1_readUnit.desc).map (fun d => d.parameters.length) = some 1 := by decide +kernel
theorem hdSU_X1_readUnit : yX1_readUnit.name ≠ "<init>" ∧ (parseMethodDescriptor yX1_readUnit.desc).map (fun d => d.parameters.length) = some 1 := by decide +kernel
theorem hdV_X1_sees : yX1_sees.cls = RX1 ∧ yX1_sees.cls ≠ "java/lang/invoke/MethodHandle" ∧ yX1_sees.cls ≠ "java/lang/invoke/VarHandle" ∧ (parseMethodDescriptor yX1_sees.desc).map (fun d => d.parameters.length) = some 1 := by decide +kernel
theorem hdS_X1_sees : yX1_sees.cls ≠ "java/lang/invoke/MethodHandle" ∧ yX1_sees.cls ≠ "java/lang/invoke/VarHandle" ∧ (parseMethodDescriptor yX1_sees.desc).map (fun d => d.parameters.length) = some 1 := by decide +kernel
theorem hdSU_X1_sees : yX1_sees.name ≠ "<init>" ∧ (parseMethodDescriptor yX1_sees.desc).map (fun d => d.parameters.length) = some 1 := by decide +kernel
theorem hdV_X1_seesDigit : yX1_seesDigit.cls = RX1 ∧ yX1_seesDigit.cls ≠ "java/lang/invoke/MethodHandle" ∧ yX1_seesDigit.cls ≠ "java/lang/invoke/VarHandle" ∧ (parseMethodDescriptor yX1_seesDigit.desc).map (fun d => d.parameters.length) = some 0 := by decide +kernel
theorem hdS_X1_seesDigit : yX1_seesDigit.cls ≠ "java/lang/invoke/MethodHandle" ∧ yX1_seesDigit.cls ≠ "java/lang/invoke/VarHandle" ∧ (parseMethodDescriptor yX1_seesDigit.desc).map (fun d => d.parameters.length) = some 0 := by decide +kernel
theorem hdSU_X1_seesDigit : yX1_seesDigit.name ≠ "<init>" ∧ (parseMethodDescriptor yX1_seesDigit.desc).map (fun d => d.parameters.length) = some 0 := by decide +kernel
theorem hdV_X1_takeSign : yX1_takeSign.cls = RX1 ∧ yX1_takeSign.cls ≠ "java/lang/invoke/MethodHandle" ∧ yX1_takeSign.cls ≠ "java/lang/invoke/VarHandle" ∧ (parseMethodDescriptor yX1_takeSign.desc).map (fun d => d.parameters.length) = some 0 := by decide +kernel
theorem hdS_X1_takeSign : yX1_takeSign.cls ≠ "java/lang/invoke/MethodHandle" ∧ yX1_takeSign.cls ≠ "java/lang/invoke/VarHandle" ∧ (parseMethodDescriptor yX1_takeSign.desc).map (fun d => d.parameters.length) = some 0 := by decide +kernel
theorem hdSU_X1_takeSign : yX1_takeSign.name ≠ "<init>" ∧ (parseMethodDescriptor yX1_takeSign.desc).map (fun d => d.parameters.length) = some 0 := by decide +kernel
theorem hdV_X1_write : yX1_write.cls = RX1 ∧ yX1_write.cls ≠ "java/lang/invoke/MethodHandle" ∧ yX1_write.cls ≠ "java/lang/invoke/VarHandle" ∧ (parseMethodDescriptor yX1_write.desc).map (fun d => d.parameters.length) = some 1 := by decide +kernel
theorem hdS_X1_write : yX1_write.cls ≠ "java/lang/invoke/MethodHandle" ∧ yX1_write.cls ≠ "java/lang/invoke/VarHandle" ∧ (parseMethodDescriptor yX1_write.desc).map (fun d => d.parameters.length) = some 1 := by decide +kernel
theorem hdSU_X1_write : yX1_write.name ≠ "<init>" ∧ (parseMethodDescriptor yX1_write.desc).map (fun d => d.parameters.length) = some 1 := by decide +kernel
theorem hdV_X2_leans : yX2_leans.cls = RX2 ∧ yX2_leans.cls ≠ "java/lang/invoke/MethodHandle" ∧ yX2_leans.cls ≠ "java/lang/invoke/VarHandle" ∧ (parseMethodDescriptor yX2_leans.desc).map (fun d => d.parameters.length) = some 2 := by decide +kernel
theorem hdS_X2_leans : yX2_leans.cls ≠ "java/lang/invoke/MethodHandle" ∧ yX2_leans.cls ≠ "java/lang/invoke/VarHandle" ∧ (parseMethodDescriptor yX2_leans.desc).map (fun d => d.parameters.length) = some 2 := by decide +kernel
theorem hdSU_X2_leans : yX2_leans.name ≠ "<init>" ∧ (parseMethodDescriptor yX2_leans.desc).map (fun d => d.parameters.length) = some 2 := by decide +kernel
theorem hdV_X2_spending : yX2_spending.cls = RX2 ∧ yX2_spending.cls ≠ "java/lang/invoke/MethodHandle" ∧ yX2_spending.cls ≠ "java/lang/invoke/VarHandle" ∧ (parseMethodDescriptor yX2_spending.desc).map (fun d => d.parameters.length) = some 2 := by decide +kernel
theorem hdS_X2_spending : yX2_spending.cls ≠ "java/lang/invoke/MethodHandle" ∧ yX2_spending.cls ≠ "java/lang/invoke/VarHandle" ∧ (parseMethodDescriptor yX2_spending.desc).map (fun d => d.parameters.length) = some 2 := by decide +kernel
theorem hdSU_X2_spending : yX2_spending.name ≠ "<init>" ∧ (parseMethodDescriptor yX2_spending.desc).map (fun d => d.parameters.length) = some 2 := by decide +kernel
theorem hdV_X3_biting : yX3_biting.cls = RX3 ∧ yX3_biting.cls ≠ "java/lang/invoke/MethodHandle" ∧ yX3_biting.cls ≠ "java/lang/invoke/VarHandle" ∧ (parseMethodDescriptor yX3_biting.desc).map (fun d => d.parameters.length) = some 1 := by decide +kernel
theorem hdS_X3_biting : yX3_biting.cls ≠ "java/lang/invoke/MethodHandle" ∧ yX3_biting.cls ≠ "java/lang/invoke/VarHandle" ∧ (parseMethodDescriptor yX3_biting.desc).map (fun d => d.parameters.length) = some 1 := by decide +kernel
theorem hdSU_X3_biting : yX3_biting.name ≠ "<init>" ∧ (parseMethodDescriptor yX3_biting.desc).map (fun d => d.parameters.length) = some 1 := by decide +kernel
theorem hdV_X3_holds : yX3_holds.cls = RX3 ∧ yX3_holds.cls ≠ "java/lang/invoke/MethodHandle" ∧ yX3_holds.cls ≠ "java/lang/invoke/VarHandle" ∧ (parseMethodDescriptor yX3_holds.desc).map (fun d => d.parameters.length) = some 2 := by decide +kernel
theorem hdS_X3_holds : yX3_holds.cls ≠ "java/lang/invoke/MethodHandle" ∧ yX3_holds.cls ≠ "java/lang/invoke/VarHandle" ∧ (parseMethodDescriptor yX3_holds.desc).map (fun d => d.parameters.length) = some 2 := by decide +kernel
theorem hdSU_X3_holds : yX3_holds.name ≠ "<init>" ∧ (parseMethodDescriptor yX3_holds.desc).map (fun d => d.parameters.length) = some 2 := by decide +kernel
theorem hdV_X3_spending : yX3_spending.cls = RX3 ∧ yX3_spending.cls ≠ "java/lang/invoke/MethodHandle" ∧ yX3_spending.cls ≠ "java/lang/invoke/VarHandle" ∧ (parseMethodDescriptor yX3_spending.desc).map (fun d => d.parameters.length) = some 2 := by decide +kernel
theorem hdS_X3_spending : yX3_spending.cls ≠ "java/lang/invoke/MethodHandle" ∧ yX3_spending.cls ≠ "java/lang/invoke/VarHandle" ∧ (parseMethodDescriptor yX3_spending.desc).map (fun d => d.parameters.length) = some 2 := by decide +kernel
theorem hdSU_X3_spending : yX3_spending.name ≠ "<init>" ∧ (parseMethodDescriptor yX3_spending.desc).map (fun d => d.parameters.length) = some 2 := by decide +kernel
theorem hdV_X3_sways : yX3_sways.cls = RX3 ∧ yX3_sways.cls ≠ "java/lang/invoke/MethodHandle" ∧ yX3_sways.cls ≠ "java/lang/invoke/VarHandle" ∧ (parseMethodDescriptor yX3_sways.desc).map (fun d => d.parameters.length) = some 2 := by decide +kernel
theorem hdS_X3_sways : yX3_sways.cls ≠ "java/lang/invoke/MethodHandle" ∧ yX3_sways.cls ≠ "java/lang/invoke/VarHandle" ∧ (parseMethodDescriptor yX3_sways.desc).map (fun d => d.parameters.length) = some 2 := by decide +kernel
theorem hdSU_X3_sways : yX3_sways.name ≠ "<init>" ∧ (parseMethodDescriptor yX3_sways.desc).map (fun d => d.parameters.length) = some 2 := by decide +kernel
theorem hdV_X4_allPatience : yX4_allPatience.cls = RX4 ∧ yX4_allPatience.cls ≠ "java/lang/invoke/MethodHandle" ∧ yX4_allPatience.cls ≠ "java/lang/invoke/VarHandle" ∧ (parseMethodDescriptor yX4_allPatience.desc).map (fun d => d.parameters.length) = some 0 := by decide +kernel
theorem hdS_X4_allPatience : yX4_allPatience.cls ≠ "java/lang/invoke/MethodHandle" ∧ yX4_allPatience.cls ≠ "java/lang/invoke/VarHandle" ∧ (parseMethodDescriptor yX4_allPatience.desc).map (fun d => d.parameters.length) = some 0 := by decide +kernel
theorem hdSU_X4_allPatience : yX4_allPatience.name ≠ "<init>" ∧ (parseMethodDescriptor yX4_allPatience.desc).map (fun d => d.parameters.length) = some 0 := by decide +kernel
theorem hdV_X4_bite : yX4_bite.cls = RX4 ∧ yX4_bite.cls ≠ "java/lang/invoke/MethodHandle" ∧ yX4_bite.cls ≠ "java/lang/invoke/VarHandle" ∧ (parseMethodDescriptor yX4_bite.desc).map (fun d => d.parameters.length) = some 1 := by decide +kernel
theorem hdS_X4_bite : yX4_bite.cls ≠ "java/lang/invoke/MethodHandle" ∧ yX4_bite.cls ≠ "java/lang/invoke/VarHandle" ∧ (parseMethodDescriptor yX4_bite.desc).map (fun d => d.parameters.length) = some 1 := by decide +kernel
theorem hdSU_X4_bite : yX4_bite.name ≠ "<init>" ∧ (parseMethodDescriptor yX4_bite.desc).map (fun d => d.parameters.length) = some 1 := by decide +kernel
theorem hdV_X4_bits : yX4_bits.cls = RX4 ∧ yX4_bits.cls ≠ "java/lang/invoke/MethodHandle" ∧ yX4_bits.cls ≠ "java/lang/invoke/VarHandle" ∧ (parseMethodDescriptor yX4_bits.desc).map (fun d => d.parameters.length) = some 0 := by decide +kernel
theorem hdS_X4_bits : yX4_bits.cls ≠ "java/lang/invoke/MethodHandle" ∧ yX4_bits.cls ≠ "java/lang/invoke/VarHandle" ∧ (parseMethodDescriptor yX4_bits.desc).map (fun d => d.parameters.length) = some 0 := by decide +kernel
theorem hdSU_X4_bits : yX4_bits.name ≠ "<init>" ∧ (parseMethodDescriptor yX4_bits.desc).map (fun d => d.parameters.length) = some 0 := by decide +kernel
theorem hdV_X4_changePosts : yX4_changePosts.cls = RX4 ∧ yX4_changePosts.cls ≠ "java/lang/invoke/MethodHandle" ∧ yX4_changePosts.cls ≠ "java/lang/invoke/VarHandle" ∧ (parseMethodDescriptor yX4_changePosts.desc).map (fun d => d.parameters.length) = some 2 := by decide +kernel
theorem hdS_X4_changePosts : yX4_changePosts.cls ≠ "java/lang/invoke/MethodHandle" ∧ yX4_changePosts.cls ≠ "java/lang/invoke/VarHandle" ∧ (parseMethodDescriptor yX4_changePosts.desc).map (fun d => d.parameters.length) = some 2 := by decide +kernel
theorem hdSU_X4_changePosts : yX4_changePosts.name ≠ "<init>" ∧ (parseMethodDescriptor yX4_changePosts.desc).map (fun d => d.parameters.length) = some 2 := by decide +kernel
theorem hdV_X4_copyFrom : yX4_copyFrom.cls = RX4 ∧ yX4_copyFrom.cls ≠ "java/lang/invoke/MethodHandle" ∧ yX4_copyFrom.cls ≠ "java/lang/invoke/VarHandle" ∧ (parseMethodDescriptor yX4_copyFrom.desc).map (fun d => d.parameters.length) = some 1 := by decide +kernel
theorem hdS_X4_copyFrom : yX4_copyFrom.cls ≠ "java/lang/invoke/MethodHandle" ∧ yX4_copyFrom.cls ≠ "java/lang/invoke/VarHandle" ∧ (parseMethodDescriptor yX4_copyFrom.desc).map (fun d => d.parameters.length) = some 1 := by decide +kernel
theorem hdSU_X4_copyFrom : yX4_copyFrom.name ≠ "<init>" ∧ (parseMethodDescriptor yX4_copyFrom.desc).map (fun d => d.parameters.length) = some 1 := by decide +kernel
theorem hdV_X4_flyAt : yX4_flyAt.cls = RX4 ∧ yX4_flyAt.cls ≠ "java/lang/invoke/MethodHandle" ∧ yX4_flyAt.cls ≠ "java/lang/invoke/VarHandle" ∧ (parseMethodDescriptor yX4_flyAt.desc).map (fun d => d.parameters.length) = some 1 := by decide +kernel
theorem hdS_X4_flyAt : yX4_flyAt.cls ≠ "java/lang/invoke/MethodHandle" ∧ yX4_flyAt.cls ≠ "java/lang/invoke/VarHandle" ∧ (parseMethodDescriptor yX4_flyAt.desc).map (fun d => d.parameters.length) = some 1 := by decide +kernel
theorem hdSU_X4_flyAt : yX4_flyAt.name ≠ "<init>" ∧ (parseMethodDescriptor yX4_flyAt.desc).map (fun d => d.parameters.length) = some 1 := by decide +kernel
theorem hdV_X4_held : yX4_held.cls = RX4 ∧ yX4_held.cls ≠ "java/lang/invoke/MethodHandle" ∧ yX4_held.cls ≠ "java/lang/invoke/VarHandle" ∧ (parseMethodDescriptor yX4_held.desc).map (fun d => d.parameters.length) = some 1 := by decide +kernel
theorem hdS_X4_held : yX4_held.cls ≠ "java/lang/invoke/MethodHandle" ∧ yX4_held.cls ≠ "java/lang/invoke/VarHandle" ∧ (parseMethodDescriptor yX4_held.desc).map (fun d => d.parameters.length) = some 1 := by decide +kernel
theorem hdSU_X4_held : yX4_held.name ≠ "<init>" ∧ (parseMethodDescriptor yX4_held.desc).map (fun d => d.parameters.length) = some 1 := by decide +kernel
theorem hdV_X4_howMany : yX4_howMany.cls = RX4 ∧ yX4_howMany.cls ≠ "java/lang/invoke/MethodHandle" ∧ yX4_howMany.cls ≠ "java/lang/invoke/VarHandle" ∧ (parseMethodDescriptor yX4_howMany.desc).map (fun d => d.parameters.length) = some 0 := by decide +kernel
theorem hdS_X4_howMany : yX4_howMany.cls ≠ "java/lang/invoke/MethodHandle" ∧ yX4_howMany.cls ≠ "java/lang/invoke/VarHandle" ∧ (parseMethodDescriptor yX4_howMany.desc).map (fun d => d.parameters.length) = some 0 := by decide +kernel
theorem hdSU_X4_howMany : yX4_howMany.name ≠ "<init>" ∧ (parseMethodDescriptor yX4_howMany.desc).map (fun d => d.parameters.length) = some 0 := by decide +kernel
theorem hdV_X4_is : yX4_is.cls = RX4 ∧ yX4_is.cls ≠ "java/lang/invoke/MethodHandle" ∧ yX4_is.cls ≠ "java/lang/invoke/VarHandle" ∧ (parseMethodDescriptor yX4_is.desc).map (fun d => d.parameters.length) = some 2 := by decide +kernel
theorem hdS_X4_is : yX4_is.cls ≠ "java/lang/invoke/MethodHandle" ∧ yX4_is.cls ≠ "java/lang/invoke/VarHandle" ∧ (parseMethodDescriptor yX4_is.desc).map (fun d => d.parameters.length) = some 2 := by decide +kernel
theorem hdSU_X4_is : yX4_is.name ≠ "<init>" ∧ (parseMethodDescriptor yX4_is.desc).map (fun d => d.parameters.length) = some 2 := by decide +kernel
theorem hdV_X4_kindOf : yX4_kindOf.cls = RX4 ∧ yX4_kindOf.cls ≠ "java/lang/invoke/MethodHandle" ∧ yX4_kindOf.cls ≠ "java/lang/invoke/VarHandle" ∧ (parseMethodDescriptor yX4_kindOf.desc).map (fun d => d.parameters.length) = some 1 := by decide +kernel
theorem hdS_X4_kindOf : yX4_kindOf.cls ≠ "java/lang/invoke/MethodHandle" ∧ yX4_kindOf.cls ≠ "java/lang/invoke/VarHandle" ∧ (parseMethodDescriptor yX4_kindOf.desc).map (fun d => d.parameters.length) = some 1 := by decide +kernel
theorem hdSU_X4_kindOf : yX4_kindOf.name ≠ "<init>" ∧ (parseMethodDescriptor yX4_kindOf.desc).map (fun d => d.parameters.length) = some 1 := by decide +kernel
theorem hdV_X4_lastsFor : yX4_lastsFor.cls = RX4 ∧ yX4_lastsFor.cls ≠ "java/lang/invoke/MethodHandle" ∧ yX4_lastsFor.cls ≠ "java/lang/invoke/VarHandle" ∧ (parseMethodDescriptor yX4_lastsFor.desc).map (fun d => d.parameters.length) = some 1 := by decide +kernel
theorem hdS_X4_lastsFor : yX4_lastsFor.cls ≠ "java/lang/invoke/MethodHandle" ∧ yX4_lastsFor.cls ≠ "java/lang/invoke/VarHandle" ∧ (parseMethodDescriptor yX4_lastsFor.desc).map (fun d => d.parameters.length) = some 1 := by decide +kernel
theorem hdSU_X4_lastsFor : yX4_lastsFor.name ≠ "<init>" ∧ (parseMethodDescriptor yX4_lastsFor.desc).map (fun d => d.parameters.length) = some 1 := by decide +kernel
theorem hdV_X4_leastAtZero : yX4_leastAtZero.cls = RX4 ∧ yX4_leastAtZero.cls ≠ "java/lang/invoke/MethodHandle" ∧ yX4_leastAtZero.cls ≠ "java/lang/invoke/VarHandle" ∧ (parseMethodDescriptor yX4_leastAtZero.desc).map (fun d => d.parameters.length) = some 0 := by decide +kernel
theorem hdS_X4_leastAtZero : yX4_leastAtZero.cls ≠ "java/lang/invoke/MethodHandle" ∧ yX4_leastAtZero.cls ≠ "java/lang/invoke/VarHandle" ∧ (parseMethodDescriptor yX4_leastAtZero.desc).map (fun d => d.parameters.length) = some 0 := by decide +kernel
theorem hdSU_X4_leastAtZero : yX4_leastAtZero.name ≠ "<init>" ∧ (parseMethodDescriptor yX4_leastAtZero.desc).map (fun d => d.parameters.length) = some 0 := by decide +kernel
theorem hdV_X4_lessen : yX4_lessen.cls = RX4 ∧ yX4_lessen.cls ≠ "java/lang/invoke/MethodHandle" ∧ yX4_lessen.cls ≠ "java/lang/invoke/VarHandle" ∧ (parseMethodDescriptor yX4_lessen.desc).map (fun d => d.parameters.length) = some 2 := by decide +kernel
theorem hdS_X4_lessen : yX4_lessen.cls ≠ "java/lang/invoke/MethodHandle" ∧ yX4_lessen.cls ≠ "java/lang/invoke/VarHandle" ∧ (parseMethodDescriptor yX4_lessen.desc).map (fun d => d.parameters.length) = some 2 := by decide +kernel
theorem hdSU_X4_lessen : yX4_lessen.name ≠ "<init>" ∧ (parseMethodDescriptor yX4_lessen.desc).map (fun d => d.parameters.length) = some 2 := by decide +kernel
theorem hdV_X4_pass : yX4_pass.cls = RX4 ∧ yX4_pass.cls ≠ "java/lang/invoke/MethodHandle" ∧ yX4_pass.cls ≠ "java/lang/invoke/VarHandle" ∧ (parseMethodDescriptor yX4_pass.desc).map (fun d => d.parameters.length) = some 1 := by decide +kernel
theorem hdS_X4_pass : yX4_pass.cls ≠ "java/lang/invoke/MethodHandle" ∧ yX4_pass.cls ≠ "java/lang/invoke/VarHandle" ∧ (parseMethodDescriptor yX4_pass.desc).map (fun d => d.parameters.length) = some 1 := by decide +kernel
theorem hdSU_X4_pass : yX4_pass.name ≠ "<init>" ∧ (parseMethodDescriptor yX4_pass.desc).map (fun d => d.parameters.length) = some 1 := by decide +kernel
theorem hdV_X4_passMinute : yX4_passMinute.cls = RX4 ∧ yX4_passMinute.cls ≠ "java/lang/invoke/MethodHandle" ∧ yX4_passMinute.cls ≠ "java/lang/invoke/VarHandle" ∧ (parseMethodDescriptor yX4_passMinute.desc).map (fun d => d.parameters.length) = some 0 := by decide +kernel
theorem hdS_X4_passMinute : yX4_passMinute.cls ≠ "java/lang/invoke/MethodHandle" ∧ yX4_passMinute.cls ≠ "java/lang/invoke/VarHandle" ∧ (parseMethodDescriptor yX4_passMinute.desc).map (fun d => d.parameters.length) = some 0 := by decide +kernel
theorem hdSU_X4_passMinute : yX4_passMinute.name ≠ "<init>" ∧ (parseMethodDescriptor yX4_passMinute.desc).map (fun d => d.parameters.length) = some 0 := by decide +kernel
theorem hdV_X4_pokeOne : yX4_pokeOne.cls = RX4 ∧ yX4_pokeOne.cls ≠ "java/lang/invoke/MethodHandle" ∧ yX4_pokeOne.cls ≠ "java/lang/invoke/VarHandle" ∧ (parseMethodDescriptor yX4_pokeOne.desc).map (fun d => d.parameters.length) = some 1 := by decide +kernel
theorem hdS_X4_pokeOne : yX4_pokeOne.cls ≠ "java/lang/invoke/MethodHandle" ∧ yX4_pokeOne.cls ≠ "java/lang/invoke/VarHandle" ∧ (parseMethodDescriptor yX4_pokeOne.desc).map (fun d => d.parameters.length) = some 1 := by decide +kernel
theorem hdSU_X4_pokeOne : yX4_pokeOne.name ≠ "<init>" ∧ (parseMethodDescriptor yX4_pokeOne.desc).map (fun d => d.parameters.length) = some 1 := by decide +kernel
theorem hdV_X4_settle : yX4_settle.cls = RX4 ∧ yX4_settle.cls ≠ "java/lang/invoke/MethodHandle" ∧ yX4_settle.cls ≠ "java/lang/invoke/VarHandle" ∧ (parseMethodDescriptor yX4_settle.desc).map (fun d => d.parameters.length) = some 0 := by decide +kernel
theorem hdS_X4_settle : yX4_settle.cls ≠ "java/lang/invoke/MethodHandle" ∧ yX4_settle.cls ≠ "java/lang/invoke/VarHandle" ∧ (parseMethodDescriptor yX4_settle.desc).map (fun d => d.parameters.length) = some 0 := by decide +kernel
theorem hdSU_X4_settle : yX4_settle.name ≠ "<init>" ∧ (parseMethodDescriptor yX4_settle.desc).map (fun d => d.parameters.length) = some 0 := by decide +kernel
theorem hdV_X4_spends : yX4_spends.cls = RX4 ∧ yX4_spends.cls ≠ "java/lang/invoke/MethodHandle" ∧ yX4_spends.cls ≠ "java/lang/invoke/VarHandle" ∧ (parseMethodDescriptor yX4_spends.desc).map (fun d => d.parameters.length) = some 1 := by decide +kernel
theorem hdS_X4_spends : yX4_spends.cls ≠ "java/lang/invoke/MethodHandle" ∧ yX4_spends.cls ≠ "java/lang/invoke/VarHandle" ∧ (parseMethodDescriptor yX4_spends.desc).map (fun d => d.parameters.length) = some 1 := by decide +kernel
theorem hdSU_X4_spends : yX4_spends.name ≠ "<init>" ∧ (parseMethodDescriptor yX4_spends.desc).map (fun d => d.parameters.length) = some 1 := by decide +kernel
theorem hdV_X4_stands : yX4_stands.cls = RX4 ∧ yX4_stands.cls ≠ "java/lang/invoke/MethodHandle" ∧ yX4_stands.cls ≠ "java/lang/invoke/VarHandle" ∧ (parseMethodDescriptor yX4_stands.desc).map (fun d => d.parameters.length) = some 1 := by decide +kernel
theorem hdS_X4_stands : yX4_stands.cls ≠ "java/lang/invoke/MethodHandle" ∧ yX4_stands.cls ≠ "java/lang/invoke/VarHandle" ∧ (parseMethodDescriptor yX4_stands.desc).map (fun d => d.parameters.length) = some 1 := by decide +kernel
theorem hdSU_X4_stands : yX4_stands.name ≠ "<init>" ∧ (parseMethodDescriptor yX4_stands.desc).map (fun d => d.parameters.length) = some 1 := by decide +kernel
theorem hdV_X4_stir : yX4_stir.cls = RX4 ∧ yX4_stir.cls ≠ "java/lang/invoke/MethodHandle" ∧ yX4_stir.cls ≠ "java/lang/invoke/VarHandle" ∧ (parseMethodDescriptor yX4_stir.desc).map (fun d => d.parameters.length) = some 1 := by decide +kernel
theorem hdS_X4_stir : yX4_stir.cls ≠ "java/lang/invoke/MethodHandle" ∧ yX4_stir.cls ≠ "java/lang/invoke/VarHandle" ∧ (parseMethodDescriptor yX4_stir.desc).map (fun d => d.parameters.length) = some 1 := by decide +kernel
theorem hdSU_X4_stir : yX4_stir.name ≠ "<init>" ∧ (parseMethodDescriptor yX4_stir.desc).map (fun d => d.parameters.length) = some 1 := by decide +kernel
theorem hdV_X4_whoIsAt : yX4_whoIsAt.cls = RX4 ∧ yX4_whoIsAt.cls ≠ "java/lang/invoke/MethodHandle" ∧ yX4_whoIsAt.cls ≠ "java/lang/invoke/VarHandle" ∧ (parseMethodDescriptor yX4_whoIsAt.desc).map (fun d => d.parameters.length) = some 1 := by decide +kernel
theorem hdS_X4_whoIsAt : yX4_whoIsAt.cls ≠ "java/lang/invoke/MethodHandle" ∧ yX4_whoIsAt.cls ≠ "java/lang/invoke/VarHandle" ∧ (parseMethodDescriptor yX4_whoIsAt.desc).map (fun d => d.parameters.length) = some 1 := by decide +kernel
theorem hdSU_X4_whoIsAt : yX4_whoIsAt.name ≠ "<init>" ∧ (parseMethodDescriptor yX4_whoIsAt.desc).map (fun d => d.parameters.length) = some 1 := by decide +kernel
theorem hdV_X5_copyFrom : yX5_copyFrom.cls = RX5 ∧ yX5_copyFrom.cls ≠ "java/lang/invoke/MethodHandle" ∧ yX5_copyFrom.cls ≠ "java/lang/invoke/VarHandle" ∧ (parseMethodDescriptor yX5_copyFrom.desc).map (fun d => d.parameters.length) = some 1 := by decide +kernel
theorem hdS_X5_copyFrom : yX5_copyFrom.cls ≠ "java/lang/invoke/MethodHandle" ∧ yX5_copyFrom.cls ≠ "java/lang/invoke/VarHandle" ∧ (parseMethodDescriptor yX5_copyFrom.desc).map (fun d => d.parameters.length) = some 1 := by decide +kernel
theorem hdSU_X5_copyFrom : yX5_copyFrom.name ≠ "<init>" ∧ (parseMethodDescriptor yX5_copyFrom.desc).map (fun d => d.parameters.length) = some 1 := by decide +kernel
theorem hdV_X5_draw : yX5_draw.cls = RX5 ∧ yX5_draw.cls ≠ "java/lang/invoke/MethodHandle" ∧ yX5_draw.cls ≠ "java/lang/invoke/VarHandle" ∧ (parseMethodDescriptor yX5_draw.desc).map (fun d => d.parameters.length) = some 0 := by decide +kernel
theorem hdS_X5_draw : yX5_draw.cls ≠ "java/lang/invoke/MethodHandle" ∧ yX5_draw.cls ≠ "java/lang/invoke/VarHandle" ∧ (parseMethodDescriptor yX5_draw.desc).map (fun d => d.parameters.length) = some 0 := by decide +kernel
theorem hdSU_X5_draw : yX5_draw.name ≠ "<init>" ∧ (parseMethodDescriptor yX5_draw.desc).map (fun d => d.parameters.length) = some 0 := by decide +kernel
theorem hdV_X5_lawOf : yX5_lawOf.cls = RX5 ∧ yX5_lawOf.cls ≠ "java/lang/invoke/MethodHandle" ∧ yX5_lawOf.cls ≠ "java/lang/invoke/VarHandle" ∧ (parseMethodDescriptor yX5_lawOf.desc).map (fun d => d.parameters.length) = some 1 := by decide +kernel
theorem hdS_X5_lawOf : yX5_lawOf.cls ≠ "java/lang/invoke/MethodHandle" ∧ yX5_lawOf.cls ≠ "java/lang/invoke/VarHandle" ∧ (parseMethodDescriptor yX5_lawOf.desc).map (fun d => d.parameters.length) = some 1 := by decide +kernel
theorem hdSU_X5_lawOf : yX5_lawOf.name ≠ "<init>" ∧ (parseMethodDescriptor yX5_lawOf.desc).map (fun d => d.parameters.length) = some 1 := by decide +kernel
theorem hdV_X6_begins : yX6_begins.cls = RX6 ∧ yX6_begins.cls ≠ "java/lang/invoke/MethodHandle" ∧ yX6_begins.cls ≠ "java/lang/invoke/VarHandle" ∧ (parseMethodDescriptor yX6_begins.desc).map (fun d => d.parameters.length) = some 1 := by decide +kernel
theorem hdS_X6_begins : yX6_begins.cls ≠ "java/lang/invoke/MethodHandle" ∧ yX6_begins.cls ≠ "java/lang/invoke/VarHandle" ∧ (parseMethodDescriptor yX6_begins.desc).map (fun d => d.parameters.length) = some 1 := by decide +kernel
theorem hdSU_X6_begins : yX6_begins.name ≠ "<init>" ∧ (parseMethodDescriptor yX6_begins.desc).map (fun d => d.parameters.length) = some 1 := by decide +kernel
theorem hdV_X6_keep : yX6_keep.cls = RX6 ∧ yX6_keep.cls ≠ "java/lang/invoke/MethodHandle" ∧ yX6_keep.cls ≠ "java/lang/invoke/VarHandle" ∧ (parseMethodDescriptor yX6_keep.desc).map (fun d => d.parameters.length) = some 0 := by decide +kernel
theorem hdS_X6_keep : yX6_keep.cls ≠ "java/lang/invoke/MethodHandle" ∧ yX6_keep.cls ≠ "java/lang/invoke/VarHandle" ∧ (parseMethodDescriptor yX6_keep.desc).map (fun d => d.parameters.length) = some 0 := by decide +kernel
theorem hdSU_X6_keep : yX6_keep.name ≠ "<init>" ∧ (parseMethodDescriptor yX6_keep.desc).map (fun d => d.parameters.length) = some 0 := by decide +kernel
theorem hdV_X6_starts : yX6_starts.cls = RX6 ∧ yX6_starts.cls ≠ "java/lang/invoke/MethodHandle" ∧ yX6_starts.cls ≠ "java/lang/invoke/VarHandle" ∧ (parseMethodDescriptor yX6_starts.desc).map (fun d => d.parameters.length) = some 2 := by decide +kernel
theorem hdS_X6_starts : yX6_starts.cls ≠ "java/lang/invoke/MethodHandle" ∧ yX6_starts.cls ≠ "java/lang/invoke/VarHandle" ∧ (parseMethodDescriptor yX6_starts.desc).map (fun d => d.parameters.length) = some 2 := by decide +kernel
theorem hdSU_X6_starts : yX6_starts.name ≠ "<init>" ∧ (parseMethodDescriptor yX6_starts.desc).map (fun d => d.parameters.length) = some 2 := by decide +kernel
theorem hdV_X7_biting : yX7_biting.cls = RX7 ∧ yX7_biting.cls ≠ "java/lang/invoke/MethodHandle" ∧ yX7_biting.cls ≠ "java/lang/invoke/VarHandle" ∧ (parseMethodDescriptor yX7_biting.desc).map (fun d => d.parameters.length) = some 1 := by decide +kernel
theorem hdS_X7_biting : yX7_biting.cls ≠ "java/lang/invoke/MethodHandle" ∧ yX7_biting.cls ≠ "java/lang/invoke/VarHandle" ∧ (parseMethodDescriptor yX7_biting.desc).map (fun d => d.parameters.length) = some 1 := by decide +kernel
theorem hdSU_X7_biting : yX7_biting.name ≠ "<init>" ∧ (parseMethodDescriptor yX7_biting.desc).map (fun d => d.parameters.length) = some 1 := by decide +kernel
theorem hdV_X7_holds : yX7_holds.cls = RX7 ∧ yX7_holds.cls ≠ "java/lang/invoke/MethodHandle" ∧ yX7_holds.cls ≠ "java/lang/invoke/VarHandle" ∧ (parseMethodDescriptor yX7_holds.desc).map (fun d => d.parameters.length) = some 2 := by decide +kernel
theorem hdS_X7_holds : yX7_holds.cls ≠ "java/lang/invoke/MethodHandle" ∧ yX7_holds.cls ≠ "java/lang/invoke/VarHandle" ∧ (parseMethodDescriptor yX7_holds.desc).map (fun d => d.parameters.length) = some 2 := by decide +kernel
theorem hdSU_X7_holds : yX7_holds.name ≠ "<init>" ∧ (parseMethodDescriptor yX7_holds.desc).map (fun d => d.parameters.length) = some 2 := by decide +kernel
theorem hdV_X7_leans : yX7_leans.cls = RX7 ∧ yX7_leans.cls ≠ "java/lang/invoke/MethodHandle" ∧ yX7_leans.cls ≠ "java/lang/invoke/VarHandle" ∧ (parseMethodDescriptor yX7_leans.desc).map (fun d => d.parameters.length) = some 2 := by decide +kernel
theorem hdS_X7_leans : yX7_leans.cls ≠ "java/lang/invoke/MethodHandle" ∧ yX7_leans.cls ≠ "java/lang/invoke/VarHandle" ∧ (parseMethodDescriptor yX7_leans.desc).map (fun d => d.parameters.length) = some 2 := by decide +kernel
theorem hdSU_X7_leans : yX7_leans.name ≠ "<init>" ∧ (parseMethodDescriptor yX7_leans.desc).map (fun d => d.parameters.length) = some 2 := by decide +kernel
theorem hdV_X7_parts : yX7_parts.cls = RX7 ∧ yX7_parts.cls ≠ "java/lang/invoke/MethodHandle" ∧ yX7_parts.cls ≠ "java/lang/invoke/VarHandle" ∧ (parseMethodDescriptor yX7_parts.desc).map (fun d => d.parameters.length) = some 2 := by decide +kernel
theorem hdS_X7_parts : yX7_parts.cls ≠ "java/lang/invoke/MethodHandle" ∧ yX7_parts.cls ≠ "java/lang/invoke/VarHandle" ∧ (parseMethodDescriptor yX7_parts.desc).map (fun d => d.parameters.length) = some 2 := by decide +kernel
theorem hdSU_X7_parts : yX7_parts.name ≠ "<init>" ∧ (parseMethodDescriptor yX7_parts.desc).map (fun d => d.parameters.length) = some 2 := by decide +kernel
theorem hdV_X7_spending : yX7_spending.cls = RX7 ∧ yX7_spending.cls ≠ "java/lang/invoke/MethodHandle" ∧ yX7_spending.cls ≠ "java/lang/invoke/VarHandle" ∧ (parseMethodDescriptor yX7_spending.desc).map (fun d => d.parameters.length) = some 2 := by decide +kernel
theorem hdS_X7_spending : yX7_spending.cls ≠ "java/lang/invoke/MethodHandle" ∧ yX7_spending.cls ≠ "java/lang/invoke/VarHandle" ∧ (parseMethodDescriptor yX7_spending.desc).map (fun d => d.parameters.length) = some 2 := by decide +kernel
theorem hdSU_X7_spending : yX7_spending.name ≠ "<init>" ∧ (parseMethodDescriptor yX7_spending.desc).map (fun d => d.parameters.length) = some 2 := by decide +kernel
theorem hdV_X7_sways : yX7_sways.cls = RX7 ∧ yX7_sways.cls ≠ "java/lang/invoke/MethodHandle" ∧ yX7_sways.cls ≠ "java/lang/invoke/VarHandle" ∧ (parseMethodDescriptor yX7_sways.desc).map (fun d => d.parameters.length) = some 2 := by decide +kernel
theorem hdS_X7_sways : yX7_sways.cls ≠ "java/lang/invoke/MethodHandle" ∧ yX7_sways.cls ≠ "java/lang/invoke/VarHandle" ∧ (parseMethodDescriptor yX7_sways.desc).map (fun d => d.parameters.length) = some 2 := by decide +kernel
theorem hdSU_X7_sways : yX7_sways.name ≠ "<init>" ∧ (parseMethodDescriptor yX7_sways.desc).map (fun d => d.parameters.length) = some 2 := by decide +kernel
theorem hdV_X8_biting : yX8_biting.cls = RX8 ∧ yX8_biting.cls ≠ "java/lang/invoke/MethodHandle" ∧ yX8_biting.cls ≠ "java/lang/invoke/VarHandle" ∧ (parseMethodDescriptor yX8_biting.desc).map (fun d => d.parameters.length) = some 1 := by decide +kernel
theorem hdS_X8_biting : yX8_biting.cls ≠ "java/lang/invoke/MethodHandle" ∧ yX8_biting.cls ≠ "java/lang/invoke/VarHandle" ∧ (parseMethodDescriptor yX8_biting.desc).map (fun d => d.parameters.length) = some 1 := by decide +kernel
theorem hdSU_X8_biting : yX8_biting.name ≠ "<init>" ∧ (parseMethodDescriptor yX8_biting.desc).map (fun d => d.parameters.length) = some 1 := by decide +kernel
theorem hdV_X8_sways : yX8_sways.cls = RX8 ∧ yX8_sways.cls ≠ "java/lang/invoke/MethodHandle" ∧ yX8_sways.cls ≠ "java/lang/invoke/VarHandle" ∧ (parseMethodDescriptor yX8_sways.desc).map (fun d => d.parameters.length) = some 2 := by decide +kernel
theorem hdS_X8_sways : yX8_sways.cls ≠ "java/lang/invoke/MethodHandle" ∧ yX8_sways.cls ≠ "java/lang/invoke/VarHandle" ∧ (parseMethodDescriptor yX8_sways.desc).map (fun d => d.parameters.length) = some 2 := by decide +kernel
theorem hdSU_X8_sways : yX8_sways.name ≠ "<init>" ∧ (parseMethodDescriptor yX8_sways.desc).map (fun d => d.parameters.length) = some 2 := by decide +kernel
theorem hdV_X9_holds : yX9_holds.cls = RX9 ∧ yX9_holds.cls ≠ "java/lang/invoke/MethodHandle" ∧ yX9_holds.cls ≠ "java/lang/invoke/VarHandle" ∧ (parseMethodDescriptor yX9_holds.desc).map (fun d => d.parameters.length) = some 2 := by decide +kernel
theorem hdS_X9_holds : yX9_holds.cls ≠ "java/lang/invoke/MethodHandle" ∧ yX9_holds.cls ≠ "java/lang/invoke/VarHandle" ∧ (parseMethodDescriptor yX9_holds.desc).map (fun d => d.parameters.length) = some 2 := by decide +kernel
theorem hdSU_X9_holds : yX9_holds.name ≠ "<init>" ∧ (parseMethodDescriptor yX9_holds.desc).map (fun d => d.parameters.length) = some 2 := by decide +kernel
theorem hdV_X9_leans : yX9_leans.cls = RX9 ∧ yX9_leans.cls ≠ "java/lang/invoke/MethodHandle" ∧ yX9_leans.cls ≠ "java/lang/invoke/VarHandle" ∧ (parseMethodDescriptor yX9_leans.desc).map (fun d => d.parameters.length) = some 2 := by decide +kernel
theorem hdS_X9_leans : yX9_leans.cls ≠ "java/lang/invoke/MethodHandle" ∧ yX9_leans.cls ≠ "java/lang/invoke/VarHandle" ∧ (parseMethodDescriptor yX9_leans.desc).map (fun d => d.parameters.length) = some 2 := by decide +kernel
theorem hdSU_X9_leans : yX9_leans.name ≠ "<init>" ∧ (parseMethodDescriptor yX9_leans.desc).map (fun d => d.parameters.length) = some 2 := by decide +kernel
theorem hdV_X9_spending : yX9_spending.cls = RX9 ∧ yX9_spending.cls ≠ "java/lang/invoke/MethodHandle" ∧ yX9_spending.cls ≠ "java/lang/invoke/VarHandle" ∧ (parseMethodDescriptor yX9_spending.desc).map (fun d => d.parameters.length) = some 2 := by decide +kernel
theorem hdS_X9_spending : yX9_spending.cls ≠ "java/lang/invoke/MethodHandle" ∧ yX9_spending.cls ≠ "java/lang/invoke/VarHandle" ∧ (parseMethodDescriptor yX9_spending.desc).map (fun d => d.parameters.length) = some 2 := by decide +kernel
theorem hdSU_X9_spending : yX9_spending.name ≠ "<init>" ∧ (parseMethodDescriptor yX9_spending.desc).map (fun d => d.parameters.length) = some 2 := by decide +kernel
theorem hdV_X10_biting : yX10_biting.cls = RX10 ∧ yX10_biting.cls ≠ "java/lang/invoke/MethodHandle" ∧ yX10_biting.cls ≠ "java/lang/invoke/VarHandle" ∧ (parseMethodDescriptor yX10_biting.desc).map (fun d => d.parameters.length) = some 1 := by decide +kernel
theorem hdS_X10_biting : yX10_biting.cls ≠ "java/lang/invoke/MethodHandle" ∧ yX10_biting.cls ≠ "java/lang/invoke/VarHandle" ∧ (parseMethodDescriptor yX10_biting.desc).map (fun d => d.parameters.length) = some 1 := by decide +kernel
theorem hdSU_X10_biting : yX10_biting.name ≠ "<init>" ∧ (parseMethodDescriptor yX10_biting.desc).map (fun d => d.parameters.length) = some 1 := by decide +kernel
theorem hdV_X10_leans : yX10_leans.cls = RX10 ∧ yX10_leans.cls ≠ "java/lang/invoke/MethodHandle" ∧ yX10_leans.cls ≠ "java/lang/invoke/VarHandle" ∧ (parseMethodDescriptor yX10_leans.desc).map (fun d => d.parameters.length) = some 2 := by decide +kernel
theorem hdS_X10_leans : yX10_leans.cls ≠ "java/lang/invoke/MethodHandle" ∧ yX10_leans.cls ≠ "java/lang/invoke/VarHandle" ∧ (parseMethodDescriptor yX10_leans.desc).map (fun d => d.parameters.length) = some 2 := by decide +kernel
theorem hdSU_X10_leans : yX10_leans.name ≠ "<init>" ∧ (parseMethodDescriptor yX10_leans.desc).map (fun d => d.parameters.length) = some 2 := by decide +kernel
theorem hdV_X12_above : yX12_above.cls = RX12 ∧ yX12_above.cls ≠ "java/lang/invoke/MethodHandle" ∧ yX12_above.cls ≠ "java/lang/invoke/VarHandle" ∧ (parseMethodDescriptor yX12_above.desc).map (fun d => d.parameters.length) = some 1 := by decide +kernel
theorem hdS_X12_above : yX12_above.cls ≠ "java/lang/invoke/MethodHandle" ∧ yX12_above.cls ≠ "java/lang/invoke/VarHandle" ∧ (parseMethodDescriptor yX12_above.desc).map (fun d => d.parameters.length) = some 1 := by decide +kernel
theorem hdV_X12_again : yX12_again.cls = RX12 ∧ yX12_again.cls ≠ "java/lang/invoke/MethodHandle" ∧ yX12_again.cls ≠ "java/lang/invoke/VarHandle" ∧ (parseMethodDescriptor yX12_again.desc).map (fun d => d.parameters.length) = some 2 := by decide +kernel
theorem hdS_X12_again : yX12_again.cls ≠ "java/lang/invoke/MethodHandle" ∧ yX12_again.cls ≠ "java/lang/invoke/VarHandle" ∧ (parseMethodDescriptor yX12_again.desc).map (fun d => d.parameters.length) = some 2 := by decide +kernel
theorem hdV_X12_as : yX12_as.cls = RX12 ∧ yX12_as.cls ≠ "java/lang/invoke/MethodHandle" ∧ yX12_as.cls ≠ "java/lang/invoke/VarHandle" ∧ (parseMethodDescriptor yX12_as.desc).map (fun d => d.parameters.length) = some 2 := by decide +kernel
theorem hdS_X12_as : yX12_as.cls ≠ "java/lang/invoke/MethodHandle" ∧ yX12_as.cls ≠ "java/lang/invoke/VarHandle" ∧ (parseMethodDescriptor yX12_as.desc).map (fun d => d.parameters.length) = some 2 := by decide +kernel
theorem hdV_X12_at : yX12_at.cls = RX12 ∧ yX12_at.cls ≠ "java/lang/invoke/MethodHandle" ∧ yX12_at.cls ≠ "java/lang/invoke/VarHandle" ∧ (parseMethodDescriptor yX12_at.desc).map (fun d => d.parameters.length) = some 1 := by decide +kernel
theorem hdS_X12_at : yX12_at.cls ≠ "java/lang/invoke/MethodHandle" ∧ yX12_at.cls ≠ "java/lang/invoke/VarHandle" ∧ (parseMethodDescriptor yX12_at.desc).map (fun d => d.parameters.length) = some 1 := by decide +kernel
theorem hdV_X12_begins : yX12_begins.cls = RX12 ∧ yX12_begins.cls ≠ "java/lang/invoke/MethodHandle" ∧ yX12_begins.cls ≠ "java/lang/invoke/VarHandle" ∧ (parseMethodDescriptor yX12_begins.desc).map (fun d => d.parameters.length) = some 1 := by decide +kernel
theorem hdS_X12_begins : yX12_begins.cls ≠ "java/lang/invoke/MethodHandle" ∧ yX12_begins.cls ≠ "java/lang/invoke/VarHandle" ∧ (parseMethodDescriptor yX12_begins.desc).map (fun d => d.parameters.length) = some 1 := by decide +kernel
theorem hdV_X12_bite : yX12_bite.cls = RX12 ∧ yX12_bite.cls ≠ "java/lang/invoke/MethodHandle" ∧ yX12_bite.cls ≠ "java/lang/invoke/VarHandle" ∧ (parseMethodDescriptor yX12_bite.desc).map (fun d => d.parameters.length) = some 1 := by decide +kernel
theorem hdS_X12_bite : yX12_bite.cls ≠ "java/lang/invoke/MethodHandle" ∧ yX12_bite.cls ≠ "java/lang/invoke/VarHandle" ∧ (parseMethodDescriptor yX12_bite.desc).map (fun d => d.parameters.length) = some 1 := by decide +kernel
theorem hdV_X12_bitsOf : yX12_bitsOf.cls = RX12 ∧ yX12_bitsOf.cls ≠ "java/lang/invoke/MethodHandle" ∧ yX12_bitsOf.cls ≠ "java/lang/invoke/VarHandle" ∧ (parseMethodDescriptor yX12_bitsOf.desc).map (fun d => d.parameters.length) = some 1 := by decide +kernel
theorem hdS_X12_bitsOf : yX12_bitsOf.cls ≠ "java/lang/invoke/MethodHandle" ∧ yX12_bitsOf.cls ≠ "java/lang/invoke/VarHandle" ∧ (parseMethodDescriptor yX12_bitsOf.desc).map (fun d => d.parameters.length) = some 1 := by decide +kernel
theorem hdV_X12_body : yX12_body.cls = RX12 ∧ yX12_body.cls ≠ "java/lang/invoke/MethodHandle" ∧ yX12_body.cls ≠ "java/lang/invoke/VarHandle" ∧ (parseMethodDescriptor yX12_body.desc).map (fun d => d.parameters.length) = some 1 := by decide +kernel
theorem hdS_X12_body : yX12_body.cls ≠ "java/lang/invoke/MethodHandle" ∧ yX12_body.cls ≠ "java/lang/invoke/VarHandle" ∧ (parseMethodDescriptor yX12_body.desc).map (fun d => d.parameters.length) = some 1 := by decide +kernel
theorem hdV_X12_both : yX12_both.cls = RX12 ∧ yX12_both.cls ≠ "java/lang/invoke/MethodHandle" ∧ yX12_both.cls ≠ "java/lang/invoke/VarHandle" ∧ (parseMethodDescriptor yX12_both.desc).map (fun d => d.parameters.length) = some 0 := by decide +kernel
theorem hdS_X12_both : yX12_both.cls ≠ "java/lang/invoke/MethodHandle" ∧ yX12_both.cls ≠ "java/lang/invoke/VarHandle" ∧ (parseMethodDescriptor yX12_both.desc).map (fun d => d.parameters.length) = some 0 := by decide +kernel
theorem hdV_X12_carry : yX12_carry.cls = RX12 ∧ yX12_carry.cls ≠ "java/lang/invoke/MethodHandle" ∧ yX12_carry.cls ≠ "java/lang/invoke/VarHandle" ∧ (parseMethodDescriptor yX12_carry.desc).map (fun d => d.parameters.length) = some 2 := by decide +kernel
theorem hdS_X12_carry : yX12_carry.cls ≠ "java/lang/invoke/MethodHandle" ∧ yX12_carry.cls ≠ "java/lang/invoke/VarHandle" ∧ (parseMethodDescriptor yX12_carry.desc).map (fun d => d.parameters.length) = some 2 := by decide +kernel
theorem hdV_X12_change : yX12_change.cls = RX12 ∧ yX12_change.cls ≠ "java/lang/invoke/MethodHandle" ∧ yX12_change.cls ≠ "java/lang/invoke/VarHandle" ∧ (parseMethodDescriptor yX12_change.desc).map (fun d => d.parameters.length) = some 2 := by decide +kernel
theorem hdS_X12_change : yX12_change.cls ≠ "java/lang/invoke/MethodHandle" ∧ yX12_change.cls ≠ "java/lang/invoke/VarHandle" ∧ (parseMethodDescriptor yX12_change.desc).map (fun d => d.parameters.length) = some 2 := by decide +kernel
theorem hdV_X12_change1 : yX12_change1.cls = RX12 ∧ yX12_change1.cls ≠ "java/lang/invoke/MethodHandle" ∧ yX12_change1.cls ≠ "java/lang/invoke/VarHandle" ∧ (parseMethodDescriptor yX12_change1.desc).map (fun d => d.parameters.length) = some 2 := by decide +kernel
theorem hdS_X12_change1 : yX12_change1.cls ≠ "java/lang/invoke/MethodHandle" ∧ yX12_change1.cls ≠ "java/lang/invoke/VarHandle" ∧ (parseMethodDescriptor yX12_change1.desc).map (fun d => d.parameters.length) = some 2 := by decide +kernel
theorem hdV_X12_check : yX12_check.cls = RX12 ∧ yX12_check.cls ≠ "java/lang/invoke/MethodHandle" ∧ yX12_check.cls ≠ "java/lang/invoke/VarHandle" ∧ (parseMethodDescriptor yX12_check.desc).map (fun d => d.parameters.length) = some 0 := by decide +kernel
theorem hdS_X12_check : yX12_check.cls ≠ "java/lang/invoke/MethodHandle" ∧ yX12_check.cls ≠ "java/lang/invoke/VarHandle" ∧ (parseMethodDescriptor yX12_check.desc).map (fun d => d.parameters.length) = some 0 := by decide +kernel
theorem hdV_X12_compared : yX12_compared.cls = RX12 ∧ yX12_compared.cls ≠ "java/lang/invoke/MethodHandle" ∧ yX12_compared.cls ≠ "java/lang/invoke/VarHandle" ∧ (parseMethodDescriptor yX12_compared.desc).map (fun d => d.parameters.length) = some 0 := by decide +kernel
theorem hdS_X12_compared : yX12_compared.cls ≠ "java/lang/invoke/MethodHandle" ∧ yX12_compared.cls ≠ "java/lang/invoke/VarHandle" ∧ (parseMethodDescriptor yX12_compared.desc).map (fun d => d.parameters.length) = some 0 := by decide +kernel
theorem hdV_X12_count : yX12_count.cls = RX12 ∧ yX12_count.cls ≠ "java/lang/invoke/MethodHandle" ∧ yX12_count.cls ≠ "java/lang/invoke/VarHandle" ∧ (parseMethodDescriptor yX12_count.desc).map (fun d => d.parameters.length) = some 1 := by decide +kernel
theorem hdS_X12_count : yX12_count.cls ≠ "java/lang/invoke/MethodHandle" ∧ yX12_count.cls ≠ "java/lang/invoke/VarHandle" ∧ (parseMethodDescriptor yX12_count.desc).map (fun d => d.parameters.length) = some 1 := by decide +kernel
theorem hdV_X12_divisor : yX12_divisor.cls = RX12 ∧ yX12_divisor.cls ≠ "java/lang/invoke/MethodHandle" ∧ yX12_divisor.cls ≠ "java/lang/invoke/VarHandle" ∧ (parseMethodDescriptor yX12_divisor.desc).map (fun d => d.parameters.length) = some 2 := by decide +kernel
theorem hdS_X12_divisor : yX12_divisor.cls ≠ "java/lang/invoke/MethodHandle" ∧ yX12_divisor.cls ≠ "java/lang/invoke/VarHandle" ∧ (parseMethodDescriptor yX12_divisor.desc).map (fun d => d.parameters.length) = some 2 := by decide +kernel
theorem hdV_X12_draw : yX12_draw.cls = RX12 ∧ yX12_draw.cls ≠ "java/lang/invoke/MethodHandle" ∧ yX12_draw.cls ≠ "java/lang/invoke/VarHandle" ∧ (parseMethodDescriptor yX12_draw.desc).map (fun d => d.parameters.length) = some 0 := by decide +kernel
theorem hdS_X12_draw : yX12_draw.cls ≠ "java/lang/invoke/MethodHandle" ∧ yX12_draw.cls ≠ "java/lang/invoke/VarHandle" ∧ (parseMethodDescriptor yX12_draw.desc).map (fun d => d.parameters.length) = some 0 := by decide +kernel
theorem hdV_X12_draws : yX12_draws.cls = RX12 ∧ yX12_draws.cls ≠ "java/lang/invoke/MethodHandle" ∧ yX12_draws.cls ≠ "java/lang/invoke/VarHandle" ∧ (parseMethodDescriptor yX12_draws.desc).map (fun d => d.parameters.length) = some 1 := by decide +kernel
theorem hdS_X12_draws : yX12_draws.cls ≠ "java/lang/invoke/MethodHandle" ∧ yX12_draws.cls ≠ "java/lang/invoke/VarHandle" ∧ (parseMethodDescriptor yX12_draws.desc).map (fun d => d.parameters.length) = some 1 := by decide +kernel
theorem hdV_X12_empties : yX12_empties.cls = RX12 ∧ yX12_empties.cls ≠ "java/lang/invoke/MethodHandle" ∧ yX12_empties.cls ≠ "java/lang/invoke/VarHandle" ∧ (parseMethodDescriptor yX12_empties.desc).map (fun d => d.parameters.length) = some 1 := by decide +kernel
theorem hdS_X12_empties : yX12_empties.cls ≠ "java/lang/invoke/MethodHandle" ∧ yX12_empties.cls ≠ "java/lang/invoke/VarHandle" ∧ (parseMethodDescriptor yX12_empties.desc).map (fun d => d.parameters.length) = some 1 := by decide +kernel
theorem hdV_X12_error : yX12_error.cls = RX12 ∧ yX12_error.cls ≠ "java/lang/invoke/MethodHandle" ∧ yX12_error.cls ≠ "java/lang/invoke/VarHandle" ∧ (parseMethodDescriptor yX12_error.desc).map (fun d => d.parameters.length) = some 1 := by decide +kernel
theorem hdS_X12_error : yX12_error.cls ≠ "java/lang/invoke/MethodHandle" ∧ yX12_error.cls ≠ "java/lang/invoke/VarHandle" ∧ (parseMethodDescriptor yX12_error.desc).map (fun d => d.parameters.length) = some 1 := by decide +kernel
theorem hdV_X12_feed : yX12_feed.cls = RX12 ∧ yX12_feed.cls ≠ "java/lang/invoke/MethodHandle" ∧ yX12_feed.cls ≠ "java/lang/invoke/VarHandle" ∧ (parseMethodDescriptor yX12_feed.desc).map (fun d => d.parameters.length) = some 2 := by decide +kernel
theorem hdS_X12_feed : yX12_feed.cls ≠ "java/lang/invoke/MethodHandle" ∧ yX12_feed.cls ≠ "java/lang/invoke/VarHandle" ∧ (parseMethodDescriptor yX12_feed.desc).map (fun d => d.parameters.length) = some 2 := by decide +kernel
theorem hdV_X12_flies : yX12_flies.cls = RX12 ∧ yX12_flies.cls ≠ "java/lang/invoke/MethodHandle" ∧ yX12_flies.cls ≠ "java/lang/invoke/VarHandle" ∧ (parseMethodDescriptor yX12_flies.desc).map (fun d => d.parameters.length) = some 1 := by decide +kernel
theorem hdS_X12_flies : yX12_flies.cls ≠ "java/lang/invoke/MethodHandle" ∧ yX12_flies.cls ≠ "java/lang/invoke/VarHandle" ∧ (parseMethodDescriptor yX12_flies.desc).map (fun d => d.parameters.length) = some 1 := by decide +kernel
theorem hdV_X12_fly : yX12_fly.cls = RX12 ∧ yX12_fly.cls ≠ "java/lang/invoke/MethodHandle" ∧ yX12_fly.cls ≠ "java/lang/invoke/VarHandle" ∧ (parseMethodDescriptor yX12_fly.desc).map (fun d => d.parameters.length) = some 1 := by decide +kernel
theorem hdS_X12_fly : yX12_fly.cls ≠ "java/lang/invoke/MethodHandle" ∧ yX12_fly.cls ≠ "java/lang/invoke/VarHandle" ∧ (parseMethodDescriptor yX12_fly.desc).map (fun d => d.parameters.length) = some 1 := by decide +kernel
theorem hdV_X12_flyAt : yX12_flyAt.cls = RX12 ∧ yX12_flyAt.cls ≠ "java/lang/invoke/MethodHandle" ∧ yX12_flyAt.cls ≠ "java/lang/invoke/VarHandle" ∧ (parseMethodDescriptor yX12_flyAt.desc).map (fun d => d.parameters.length) = some 1 := by decide +kernel
theorem hdS_X12_flyAt : yX12_flyAt.cls ≠ "java/lang/invoke/MethodHandle" ∧ yX12_flyAt.cls ≠ "java/lang/invoke/VarHandle" ∧ (parseMethodDescriptor yX12_flyAt.desc).map (fun d => d.parameters.length) = some 1 := by decide +kernel
theorem hdV_X12_go : yX12_go.cls = RX12 ∧ yX12_go.cls ≠ "java/lang/invoke/MethodHandle" ∧ yX12_go.cls ≠ "java/lang/invoke/VarHandle" ∧ (parseMethodDescriptor yX12_go.desc).map (fun d => d.parameters.length) = some 1 := by decide +kernel
theorem hdS_X12_go : yX12_go.cls ≠ "java/lang/invoke/MethodHandle" ∧ yX12_go.cls ≠ "java/lang/invoke/VarHandle" ∧ (parseMethodDescriptor yX12_go.desc).map (fun d => d.parameters.length) = some 1 := by decide +kernel
theorem hdV_X12_hasText : yX12_hasText.cls = RX12 ∧ yX12_hasText.cls ≠ "java/lang/invoke/MethodHandle" ∧ yX12_hasText.cls ≠ "java/lang/invoke/VarHandle" ∧ (parseMethodDescriptor yX12_hasText.desc).map (fun d => d.parameters.length) = some 1 := by decide +kernel
theorem hdS_X12_hasText : yX12_hasText.cls ≠ "java/lang/invoke/MethodHandle" ∧ yX12_hasText.cls ≠ "java/lang/invoke/VarHandle" ∧ (parseMethodDescriptor yX12_hasText.desc).map (fun d => d.parameters.length) = some 1 := by decide +kernel
theorem hdV_X12_held : yX12_held.cls = RX12 ∧ yX12_held.cls ≠ "java/lang/invoke/MethodHandle" ∧ yX12_held.cls ≠ "java/lang/invoke/VarHandle" ∧ (parseMethodDescriptor yX12_held.desc).map (fun d => d.parameters.length) = some 3 := by decide +kernel
theorem hdS_X12_held : yX12_held.cls ≠ "java/lang/invoke/MethodHandle" ∧ yX12_held.cls ≠ "java/lang/invoke/VarHandle" ∧ (parseMethodDescriptor yX12_held.desc).map (fun d => d.parameters.length) = some 3 := by decide +kernel
theorem hdV_X12_holdsAs : yX12_holdsAs.cls = RX12 ∧ yX12_holdsAs.cls ≠ "java/lang/invoke/MethodHandle" ∧ yX12_holdsAs.cls ≠ "java/lang/invoke/VarHandle" ∧ (parseMethodDescriptor yX12_holdsAs.desc).map (fun d => d.parameters.length) = some 2 := by decide +kernel
theorem hdS_X12_holdsAs : yX12_holdsAs.cls ≠ "java/lang/invoke/MethodHandle" ∧ yX12_holdsAs.cls ≠ "java/lang/invoke/VarHandle" ∧ (parseMethodDescriptor yX12_holdsAs.desc).map (fun d => d.parameters.length) = some 2 := by decide +kernel
theorem hdV_X12_howMany : yX12_howMany.cls = RX12 ∧ yX12_howMany.cls ≠ "java/lang/invoke/MethodHandle" ∧ yX12_howMany.cls ≠ "java/lang/invoke/VarHandle" ∧ (parseMethodDescriptor yX12_howMany.desc).map (fun d => d.parameters.length) = some 0 := by decide +kernel
theorem hdS_X12_howMany : yX12_howMany.cls ≠ "java/lang/invoke/MethodHandle" ∧ yX12_howMany.cls ≠ "java/lang/invoke/VarHandle" ∧ (parseMethodDescriptor yX12_howMany.desc).map (fun d => d.parameters.length) = some 0 := by decide +kernel
theorem hdV_X12_image : yX12_image.cls = RX12 ∧ yX12_image.cls ≠ "java/lang/invoke/MethodHandle" ∧ yX12_image.cls ≠ "java/lang/invoke/VarHandle" ∧ (parseMethodDescriptor yX12_image.desc).map (fun d => d.parameters.length) = some 0 := by decide +kernel
theorem hdS_X12_image : yX12_image.cls ≠ "java/lang/invoke/MethodHandle" ∧ yX12_image.cls ≠ "java/lang/invoke/VarHandle" ∧ (parseMethodDescriptor yX12_image.desc).map (fun d => d.parameters.length) = some 0 := by decide +kernel
theorem hdV_X12_in : yX12_in.cls = RX12 ∧ yX12_in.cls ≠ "java/lang/invoke/MethodHandle" ∧ yX12_in.cls ≠ "java/lang/invoke/VarHandle" ∧ (parseMethodDescriptor yX12_in.desc).map (fun d => d.parameters.length) = some 3 := by decide +kernel
theorem hdS_X12_in : yX12_in.cls ≠ "java/lang/invoke/MethodHandle" ∧ yX12_in.cls ≠ "java/lang/invoke/VarHandle" ∧ (parseMethodDescriptor yX12_in.desc).map (fun d => d.parameters.length) = some 3 := by decide +kernel
theorem hdV_X12_isName : yX12_isName.cls = RX12 ∧ yX12_isName.cls ≠ "java/lang/invoke/MethodHandle" ∧ yX12_isName.cls ≠ "java/lang/invoke/VarHandle" ∧ (parseMethodDescriptor yX12_isName.desc).map (fun d => d.parameters.length) = some 1 := by decide +kernel
theorem hdS_X12_isName : yX12_isName.cls ≠ "java/lang/invoke/MethodHandle" ∧ yX12_isName.cls ≠ "java/lang/invoke/VarHandle" ∧ (parseMethodDescriptor yX12_isName.desc).map (fun d => d.parameters.length) = some 1 := by decide +kernel
theorem hdV_X12_isOne : yX12_isOne.cls = RX12 ∧ yX12_isOne.cls ≠ "java/lang/invoke/MethodHandle" ∧ yX12_isOne.cls ≠ "java/lang/invoke/VarHandle" ∧ (parseMethodDescriptor yX12_isOne.desc).map (fun d => d.parameters.length) = some 1 := by decide +kernel
theorem hdS_X12_isOne : yX12_isOne.cls ≠ "java/lang/invoke/MethodHandle" ∧ yX12_isOne.cls ≠ "java/lang/invoke/VarHandle" ∧ (parseMethodDescriptor yX12_isOne.desc).map (fun d => d.parameters.length) = some 1 := by decide +kernel
theorem hdV_X12_isSheet : yX12_isSheet.cls = RX12 ∧ yX12_isSheet.cls ≠ "java/lang/invoke/MethodHandle" ∧ yX12_isSheet.cls ≠ "java/lang/invoke/VarHandle" ∧ (parseMethodDescriptor yX12_isSheet.desc).map (fun d => d.parameters.length) = some 1 := by decide +kernel
theorem hdS_X12_isSheet : yX12_isSheet.cls ≠ "java/lang/invoke/MethodHandle" ∧ yX12_isSheet.cls ≠ "java/lang/invoke/VarHandle" ∧ (parseMethodDescriptor yX12_isSheet.desc).map (fun d => d.parameters.length) = some 1 := by decide +kernel
theorem hdV_X12_isUnder : yX12_isUnder.cls = RX12 ∧ yX12_isUnder.cls ≠ "java/lang/invoke/MethodHandle" ∧ yX12_isUnder.cls ≠ "java/lang/invoke/VarHandle" ∧ (parseMethodDescriptor yX12_isUnder.desc).map (fun d => d.parameters.length) = some 2 := by decide +kernel
theorem hdS_X12_isUnder : yX12_isUnder.cls ≠ "java/lang/invoke/MethodHandle" ∧ yX12_isUnder.cls ≠ "java/lang/invoke/VarHandle" ∧ (parseMethodDescriptor yX12_isUnder.desc).map (fun d => d.parameters.length) = some 2 := by decide +kernel
theorem hdV_X12_its : yX12_its.cls = RX12 ∧ yX12_its.cls ≠ "java/lang/invoke/MethodHandle" ∧ yX12_its.cls ≠ "java/lang/invoke/VarHandle" ∧ (parseMethodDescriptor yX12_its.desc).map (fun d => d.parameters.length) = some 2 := by decide +kernel
theorem hdS_X12_its : yX12_its.cls ≠ "java/lang/invoke/MethodHandle" ∧ yX12_its.cls ≠ "java/lang/invoke/VarHandle" ∧ (parseMethodDescriptor yX12_its.desc).map (fun d => d.parameters.length) = some 2 := by decide +kernel
theorem hdV_X12_joined : yX12_joined.cls = RX12 ∧ yX12_joined.cls ≠ "java/lang/invoke/MethodHandle" ∧ yX12_joined.cls ≠ "java/lang/invoke/VarHandle" ∧ (parseMethodDescriptor yX12_joined.desc).map (fun d => d.parameters.length) = some 3 := by decide +kernel
theorem hdS_X12_joined : yX12_joined.cls ≠ "java/lang/invoke/MethodHandle" ∧ yX12_joined.cls ≠ "java/lang/invoke/VarHandle" ∧ (parseMethodDescriptor yX12_joined.desc).map (fun d => d.parameters.length) = some 3 := by decide +kernel
theorem hdV_X12_judge : yX12_judge.cls = RX12 ∧ yX12_judge.cls ≠ "java/lang/invoke/MethodHandle" ∧ yX12_judge.cls ≠ "java/lang/invoke/VarHandle" ∧ (parseMethodDescriptor yX12_judge.desc).map (fun d => d.parameters.length) = some 1 := by decide +kernel
theorem hdS_X12_judge : yX12_judge.cls ≠ "java/lang/invoke/MethodHandle" ∧ yX12_judge.cls ≠ "java/lang/invoke/VarHandle" ∧ (parseMethodDescriptor yX12_judge.desc).map (fun d => d.parameters.length) = some 1 := by decide +kernel
theorem hdV_X12_kindNow : yX12_kindNow.cls = RX12 ∧ yX12_kindNow.cls ≠ "java/lang/invoke/MethodHandle" ∧ yX12_kindNow.cls ≠ "java/lang/invoke/VarHandle" ∧ (parseMethodDescriptor yX12_kindNow.desc).map (fun d => d.parameters.length) = some 0 := by decide +kernel
theorem hdS_X12_kindNow : yX12_kindNow.cls ≠ "java/lang/invoke/MethodHandle" ∧ yX12_kindNow.cls ≠ "java/lang/invoke/VarHandle" ∧ (parseMethodDescriptor yX12_kindNow.desc).map (fun d => d.parameters.length) = some 0 := by decide +kernel
theorem hdV_X12_lacks : yX12_lacks.cls = RX12 ∧ yX12_lacks.cls ≠ "java/lang/invoke/MethodHandle" ∧ yX12_lacks.cls ≠ "java/lang/invoke/VarHandle" ∧ (parseMethodDescriptor yX12_lacks.desc).map (fun d => d.parameters.length) = some 1 := by decide +kernel
theorem hdS_X12_lacks : yX12_lacks.cls ≠ "java/lang/invoke/MethodHandle" ∧ yX12_lacks.cls ≠ "java/lang/invoke/VarHandle" ∧ (parseMethodDescriptor yX12_lacks.desc).map (fun d => d.parameters.length) = some 1 := by decide +kernel
theorem hdV_X12_lastAll : yX12_lastAll.cls = RX12 ∧ yX12_lastAll.cls ≠ "java/lang/invoke/MethodHandle" ∧ yX12_lastAll.cls ≠ "java/lang/invoke/VarHandle" ∧ (parseMethodDescriptor yX12_lastAll.desc).map (fun d => d.parameters.length) = some 0 := by decide +kernel
theorem hdS_X12_lastAll : yX12_lastAll.cls ≠ "java/lang/invoke/MethodHandle" ∧ yX12_lastAll.cls ≠ "java/lang/invoke/VarHandle" ∧ (parseMethodDescriptor yX12_lastAll.desc).map (fun d => d.parameters.length) = some 0 := by decide +kernel
theorem hdV_X12_lastOne : yX12_lastOne.cls = RX12 ∧ yX12_lastOne.cls ≠ "java/lang/invoke/MethodHandle" ∧ yX12_lastOne.cls ≠ "java/lang/invoke/VarHandle" ∧ (parseMethodDescriptor yX12_lastOne.desc).map (fun d => d.parameters.length) = some 0 := by decide +kernel
theorem hdS_X12_lastOne : yX12_lastOne.cls ≠ "java/lang/invoke/MethodHandle" ∧ yX12_lastOne.cls ≠ "java/lang/invoke/VarHandle" ∧ (parseMethodDescriptor yX12_lastOne.desc).map (fun d => d.parameters.length) = some 0 := by decide +kernel
theorem hdV_X12_lasts : yX12_lasts.cls = RX12 ∧ yX12_lasts.cls ≠ "java/lang/invoke/MethodHandle" ∧ yX12_lasts.cls ≠ "java/lang/invoke/VarHandle" ∧ (parseMethodDescriptor yX12_lasts.desc).map (fun d => d.parameters.length) = some 1 := by decide +kernel
theorem hdS_X12_lasts : yX12_lasts.cls ≠ "java/lang/invoke/MethodHandle" ∧ yX12_lasts.cls ≠ "java/lang/invoke/VarHandle" ∧ (parseMethodDescriptor yX12_lasts.desc).map (fun d => d.parameters.length) = some 1 := by decide +kernel
theorem hdV_X12_layBack : yX12_layBack.cls = RX12 ∧ yX12_layBack.cls ≠ "java/lang/invoke/MethodHandle" ∧ yX12_layBack.cls ≠ "java/lang/invoke/VarHandle" ∧ (parseMethodDescriptor yX12_layBack.desc).map (fun d => d.parameters.length) = some 1 := by decide +kernel
theorem hdS_X12_layBack : yX12_layBack.cls ≠ "java/lang/invoke/MethodHandle" ∧ yX12_layBack.cls ≠ "java/lang/invoke/VarHandle" ∧ (parseMethodDescriptor yX12_layBack.desc).map (fun d => d.parameters.length) = some 1 := by decide +kernel
theorem hdV_X12_layDown : yX12_layDown.cls = RX12 ∧ yX12_layDown.cls ≠ "java/lang/invoke/MethodHandle" ∧ yX12_layDown.cls ≠ "java/lang/invoke/VarHandle" ∧ (parseMethodDescriptor yX12_layDown.desc).map (fun d => d.parameters.length) = some 1 := by decide +kernel
theorem hdS_X12_layDown : yX12_layDown.cls ≠ "java/lang/invoke/MethodHandle" ∧ yX12_layDown.cls ≠ "java/lang/invoke/VarHandle" ∧ (parseMethodDescriptor yX12_layDown.desc).map (fun d => d.parameters.length) = some 1 := by decide +kernel
theorem hdV_X12_lays1 : yX12_lays1.cls = RX12 ∧ yX12_lays1.cls ≠ "java/lang/invoke/MethodHandle" ∧ yX12_lays1.cls ≠ "java/lang/invoke/VarHandle" ∧ (parseMethodDescriptor yX12_lays1.desc).map (fun d => d.parameters.length) = some 3 := by decide +kernel
theorem hdS_X12_lays1 : yX12_lays1.cls ≠ "java/lang/invoke/MethodHandle" ∧ yX12_lays1.cls ≠ "java/lang/invoke/VarHandle" ∧ (parseMethodDescriptor yX12_lays1.desc).map (fun d => d.parameters.length) = some 3 := by decide +kernel
theorem hdV_X12_leansAs : yX12_leansAs.cls = RX12 ∧ yX12_leansAs.cls ≠ "java/lang/invoke/MethodHandle" ∧ yX12_leansAs.cls ≠ "java/lang/invoke/VarHandle" ∧ (parseMethodDescriptor yX12_leansAs.desc).map (fun d => d.parameters.length) = some 2 := by decide +kernel
theorem hdS_X12_leansAs : yX12_leansAs.cls ≠ "java/lang/invoke/MethodHandle" ∧ yX12_leansAs.cls ≠ "java/lang/invoke/VarHandle" ∧ (parseMethodDescriptor yX12_leansAs.desc).map (fun d => d.parameters.length) = some 2 := by decide +kernel
theorem hdV_X12_look : yX12_look.cls = RX12 ∧ yX12_look.cls ≠ "java/lang/invoke/MethodHandle" ∧ yX12_look.cls ≠ "java/lang/invoke/VarHandle" ∧ (parseMethodDescriptor yX12_look.desc).map (fun d => d.parameters.length) = some 0 := by decide +kernel
theorem hdS_X12_look : yX12_look.cls ≠ "java/lang/invoke/MethodHandle" ∧ yX12_look.cls ≠ "java/lang/invoke/VarHandle" ∧ (parseMethodDescriptor yX12_look.desc).map (fun d => d.parameters.length) = some 0 := by decide +kernel
theorem hdV_X12_loses : yX12_loses.cls = RX12 ∧ yX12_loses.cls ≠ "java/lang/invoke/MethodHandle" ∧ yX12_loses.cls ≠ "java/lang/invoke/VarHandle" ∧ (parseMethodDescriptor yX12_loses.desc).map (fun d => d.parameters.length) = some 2 := by decide +kernel
theorem hdS_X12_loses : yX12_loses.cls ≠ "java/lang/invoke/MethodHandle" ∧ yX12_loses.cls ≠ "java/lang/invoke/VarHandle" ∧ (parseMethodDescriptor yX12_loses.desc).map (fun d => d.parameters.length) = some 2 := by decide +kernel
theorem hdV_X12_mNow : yX12_mNow.cls = RX12 ∧ yX12_mNow.cls ≠ "java/lang/invoke/MethodHandle" ∧ yX12_mNow.cls ≠ "java/lang/invoke/VarHandle" ∧ (parseMethodDescriptor yX12_mNow.desc).map (fun d => d.parameters.length) = some 0 := by decide +kernel
theorem hdS_X12_mNow : yX12_mNow.cls ≠ "java/lang/invoke/MethodHandle" ∧ yX12_mNow.cls ≠ "java/lang/invoke/VarHandle" ∧ (parseMethodDescriptor yX12_mNow.desc).map (fun d => d.parameters.length) = some 0 := by decide +kernel
theorem hdV_X12_minute : yX12_minute.cls = RX12 ∧ yX12_minute.cls ≠ "java/lang/invoke/MethodHandle" ∧ yX12_minute.cls ≠ "java/lang/invoke/VarHandle" ∧ (parseMethodDescriptor yX12_minute.desc).map (fun d => d.parameters.length) = some 0 := by decide +kernel
theorem hdS_X12_minute : yX12_minute.cls ≠ "java/lang/invoke/MethodHandle" ∧ yX12_minute.cls ≠ "java/lang/invoke/VarHandle" ∧ (parseMethodDescriptor yX12_minute.desc).map (fun d => d.parameters.length) = some 0 := by decide +kernel
theorem hdV_X12_minutes : yX12_minutes.cls = RX12 ∧ yX12_minutes.cls ≠ "java/lang/invoke/MethodHandle" ∧ yX12_minutes.cls ≠ "java/lang/invoke/VarHandle" ∧ (parseMethodDescriptor yX12_minutes.desc).map (fun d => d.parameters.length) = some 1 := by decide +kernel
theorem hdS_X12_minutes : yX12_minutes.cls ≠ "java/lang/invoke/MethodHandle" ∧ yX12_minutes.cls ≠ "java/lang/invoke/VarHandle" ∧ (parseMethodDescriptor yX12_minutes.desc).map (fun d => d.parameters.length) = some 1 := by decide +kernel
theorem hdV_X12_move : yX12_move.cls = RX12 ∧ yX12_move.cls ≠ "java/lang/invoke/MethodHandle" ∧ yX12_move.cls ≠ "java/lang/invoke/VarHandle" ∧ (parseMethodDescriptor yX12_move.desc).map (fun d => d.parameters.length) = some 5 := by decide +kernel
theorem hdS_X12_move : yX12_move.cls ≠ "java/lang/invoke/MethodHandle" ∧ yX12_move.cls ≠ "java/lang/invoke/VarHandle" ∧ (parseMethodDescriptor yX12_move.desc).map (fun d => d.parameters.length) = some 5 := by decide +kernel
theorem hdV_X12_one : yX12_one.cls = RX12 ∧ yX12_one.cls ≠ "java/lang/invoke/MethodHandle" ∧ yX12_one.cls ≠ "java/lang/invoke/VarHandle" ∧ (parseMethodDescriptor yX12_one.desc).map (fun d => d.parameters.length) = some 0 := by decide +kernel
theorem hdS_X12_one : yX12_one.cls ≠ "java/lang/invoke/MethodHandle" ∧ yX12_one.cls ≠ "java/lang/invoke/VarHandle" ∧ (parseMethodDescriptor yX12_one.desc).map (fun d => d.parameters.length) = some 0 := by decide +kernel
theorem hdV_X12_opens : yX12_opens.cls = RX12 ∧ yX12_opens.cls ≠ "java/lang/invoke/MethodHandle" ∧ yX12_opens.cls ≠ "java/lang/invoke/VarHandle" ∧ (parseMethodDescriptor yX12_opens.desc).map (fun d => d.parameters.length) = some 0 := by decide +kernel
theorem hdS_X12_opens : yX12_opens.cls ≠ "java/lang/invoke/MethodHandle" ∧ yX12_opens.cls ≠ "java/lang/invoke/VarHandle" ∧ (parseMethodDescriptor yX12_opens.desc).map (fun d => d.parameters.length) = some 0 := by decide +kernel
theorem hdV_X12_partsAs : yX12_partsAs.cls = RX12 ∧ yX12_partsAs.cls ≠ "java/lang/invoke/MethodHandle" ∧ yX12_partsAs.cls ≠ "java/lang/invoke/VarHandle" ∧ (parseMethodDescriptor yX12_partsAs.desc).map (fun d => d.parameters.length) = some 2 := by decide +kernel
theorem hdS_X12_partsAs : yX12_partsAs.cls ≠ "java/lang/invoke/MethodHandle" ∧ yX12_partsAs.cls ≠ "java/lang/invoke/VarHandle" ∧ (parseMethodDescriptor yX12_partsAs.desc).map (fun d => d.parameters.length) = some 2 := by decide +kernel
theorem hdV_X12_patience : yX12_patience.cls = RX12 ∧ yX12_patience.cls ≠ "java/lang/invoke/MethodHandle" ∧ yX12_patience.cls ≠ "java/lang/invoke/VarHandle" ∧ (parseMethodDescriptor yX12_patience.desc).map (fun d => d.parameters.length) = some 2 := by decide +kernel
theorem hdS_X12_patience : yX12_patience.cls ≠ "java/lang/invoke/MethodHandle" ∧ yX12_patience.cls ≠ "java/lang/invoke/VarHandle" ∧ (parseMethodDescriptor yX12_patience.desc).map (fun d => d.parameters.length) = some 2 := by decide +kernel
theorem hdV_X12_poke : yX12_poke.cls = RX12 ∧ yX12_poke.cls ≠ "java/lang/invoke/MethodHandle" ∧ yX12_poke.cls ≠ "java/lang/invoke/VarHandle" ∧ (parseMethodDescriptor yX12_poke.desc).map (fun d => d.parameters.length) = some 1 := by decide +kernel
theorem hdS_X12_poke : yX12_poke.cls ≠ "java/lang/invoke/MethodHandle" ∧ yX12_poke.cls ≠ "java/lang/invoke/VarHandle" ∧ (parseMethodDescriptor yX12_poke.desc).map (fun d => d.parameters.length) = some 1 := by decide +kernel
theorem hdV_X12_pokes : yX12_pokes.cls = RX12 ∧ yX12_pokes.cls ≠ "java/lang/invoke/MethodHandle" ∧ yX12_pokes.cls ≠ "java/lang/invoke/VarHandle" ∧ (parseMethodDescriptor yX12_pokes.desc).map (fun d => d.parameters.length) = some 1 := by decide +kernel
theorem hdS_X12_pokes : yX12_pokes.cls ≠ "java/lang/invoke/MethodHandle" ∧ yX12_pokes.cls ≠ "java/lang/invoke/VarHandle" ∧ (parseMethodDescriptor yX12_pokes.desc).map (fun d => d.parameters.length) = some 1 := by decide +kernel
theorem hdV_X12_product : yX12_product.cls = RX12 ∧ yX12_product.cls ≠ "java/lang/invoke/MethodHandle" ∧ yX12_product.cls ≠ "java/lang/invoke/VarHandle" ∧ (parseMethodDescriptor yX12_product.desc).map (fun d => d.parameters.length) = some 0 := by decide +kernel
theorem hdS_X12_product : yX12_product.cls ≠ "java/lang/invoke/MethodHandle" ∧ yX12_product.cls ≠ "java/lang/invoke/VarHandle" ∧ (parseMethodDescriptor yX12_product.desc).map (fun d => d.parameters.length) = some 0 := by decide +kernel
theorem hdV_X12_put : yX12_put.cls = RX12 ∧ yX12_put.cls ≠ "java/lang/invoke/MethodHandle" ∧ yX12_put.cls ≠ "java/lang/invoke/VarHandle" ∧ (parseMethodDescriptor yX12_put.desc).map (fun d => d.parameters.length) = some 3 := by decide +kernel
theorem hdS_X12_put : yX12_put.cls ≠ "java/lang/invoke/MethodHandle" ∧ yX12_put.cls ≠ "java/lang/invoke/VarHandle" ∧ (parseMethodDescriptor yX12_put.desc).map (fun d => d.parameters.length) = some 3 := by decide +kernel
theorem hdV_X12_restore : yX12_restore.cls = RX12 ∧ yX12_restore.cls ≠ "java/lang/invoke/MethodHandle" ∧ yX12_restore.cls ≠ "java/lang/invoke/VarHandle" ∧ (parseMethodDescriptor yX12_restore.desc).map (fun d => d.parameters.length) = some 0 := by decide +kernel
theorem hdS_X12_restore : yX12_restore.cls ≠ "java/lang/invoke/MethodHandle" ∧ yX12_restore.cls ≠ "java/lang/invoke/VarHandle" ∧ (parseMethodDescriptor yX12_restore.desc).map (fun d => d.parameters.length) = some 0 := by decide +kernel
theorem hdV_X12_round : yX12_round.cls = RX12 ∧ yX12_round.cls ≠ "java/lang/invoke/MethodHandle" ∧ yX12_round.cls ≠ "java/lang/invoke/VarHandle" ∧ (parseMethodDescriptor yX12_round.desc).map (fun d => d.parameters.length) = some 3 := by decide +kernel
theorem hdS_X12_round : yX12_round.cls ≠ "java/lang/invoke/MethodHandle" ∧ yX12_round.cls ≠ "java/lang/invoke/VarHandle" ∧ (parseMethodDescriptor yX12_round.desc).map (fun d => d.parameters.length) = some 3 := by decide +kernel
theorem hdV_X12_seed : yX12_seed.cls = RX12 ∧ yX12_seed.cls ≠ "java/lang/invoke/MethodHandle" ∧ yX12_seed.cls ≠ "java/lang/invoke/VarHandle" ∧ (parseMethodDescriptor yX12_seed.desc).map (fun d => d.parameters.length) = some 1 := by decide +kernel
theorem hdS_X12_seed : yX12_seed.cls ≠ "java/lang/invoke/MethodHandle" ∧ yX12_seed.cls ≠ "java/lang/invoke/VarHandle" ∧ (parseMethodDescriptor yX12_seed.desc).map (fun d => d.parameters.length) = some 1 := by decide +kernel
theorem hdV_X12_settle : yX12_settle.cls = RX12 ∧ yX12_settle.cls ≠ "java/lang/invoke/MethodHandle" ∧ yX12_settle.cls ≠ "java/lang/invoke/VarHandle" ∧ (parseMethodDescriptor yX12_settle.desc).map (fun d => d.parameters.length) = some 0 := by decide +kernel
theorem hdS_X12_settle : yX12_settle.cls ≠ "java/lang/invoke/MethodHandle" ∧ yX12_settle.cls ≠ "java/lang/invoke/VarHandle" ∧ (parseMethodDescriptor yX12_settle.desc).map (fun d => d.parameters.length) = some 0 := by decide +kernel
theorem hdV_X12_shaken : yX12_shaken.cls = RX12 ∧ yX12_shaken.cls ≠ "java/lang/invoke/MethodHandle" ∧ yX12_shaken.cls ≠ "java/lang/invoke/VarHandle" ∧ (parseMethodDescriptor yX12_shaken.desc).map (fun d => d.parameters.length) = some 2 := by decide +kernel
theorem hdS_X12_shaken : yX12_shaken.cls ≠ "java/lang/invoke/MethodHandle" ∧ yX12_shaken.cls ≠ "java/lang/invoke/VarHandle" ∧ (parseMethodDescriptor yX12_shaken.desc).map (fun d => d.parameters.length) = some 2 := by decide +kernel
theorem hdV_X12_sheet : yX12_sheet.cls = RX12 ∧ yX12_sheet.cls ≠ "java/lang/invoke/MethodHandle" ∧ yX12_sheet.cls ≠ "java/lang/invoke/VarHandle" ∧ (parseMethodDescriptor yX12_sheet.desc).map (fun d => d.parameters.length) = some 3 := by decide +kernel
theorem hdS_X12_sheet : yX12_sheet.cls ≠ "java/lang/invoke/MethodHandle" ∧ yX12_sheet.cls ≠ "java/lang/invoke/VarHandle" ∧ (parseMethodDescriptor yX12_sheet.desc).map (fun d => d.parameters.length) = some 3 := by decide +kernel
theorem hdV_X12_slate : yX12_slate.cls = RX12 ∧ yX12_slate.cls ≠ "java/lang/invoke/MethodHandle" ∧ yX12_slate.cls ≠ "java/lang/invoke/VarHandle" ∧ (parseMethodDescriptor yX12_slate.desc).map (fun d => d.parameters.length) = some 2 := by decide +kernel
theorem hdS_X12_slate : yX12_slate.cls ≠ "java/lang/invoke/MethodHandle" ∧ yX12_slate.cls ≠ "java/lang/invoke/VarHandle" ∧ (parseMethodDescriptor yX12_slate.desc).map (fun d => d.parameters.length) = some 2 := by decide +kernel
theorem hdV_X12_spends : yX12_spends.cls = RX12 ∧ yX12_spends.cls ≠ "java/lang/invoke/MethodHandle" ∧ yX12_spends.cls ≠ "java/lang/invoke/VarHandle" ∧ (parseMethodDescriptor yX12_spends.desc).map (fun d => d.parameters.length) = some 1 := by decide +kernel
theorem hdS_X12_spends : yX12_spends.cls ≠ "java/lang/invoke/MethodHandle" ∧ yX12_spends.cls ≠ "java/lang/invoke/VarHandle" ∧ (parseMethodDescriptor yX12_spends.desc).map (fun d => d.parameters.length) = some 1 := by decide +kernel
theorem hdV_X12_spendsTold : yX12_spendsTold.cls = RX12 ∧ yX12_spendsTold.cls ≠ "java/lang/invoke/MethodHandle" ∧ yX12_spendsTold.cls ≠ "java/lang/invoke/VarHandle" ∧ (parseMethodDescriptor yX12_spendsTold.desc).map (fun d => d.parameters.length) = some 1 := by decide +kernel
theorem hdS_X12_spendsTold : yX12_spendsTold.cls ≠ "java/lang/invoke/MethodHandle" ∧ yX12_spendsTold.cls ≠ "java/lang/invoke/VarHandle" ∧ (parseMethodDescriptor yX12_spendsTold.desc).map (fun d => d.parameters.length) = some 1 := by decide +kernel
theorem hdV_X12_standSet : yX12_standSet.cls = RX12 ∧ yX12_standSet.cls ≠ "java/lang/invoke/MethodHandle" ∧ yX12_standSet.cls ≠ "java/lang/invoke/VarHandle" ∧ (parseMethodDescriptor yX12_standSet.desc).map (fun d => d.parameters.length) = some 0 := by decide +kernel
theorem hdS_X12_standSet : yX12_standSet.cls ≠ "java/lang/invoke/MethodHandle" ∧ yX12_standSet.cls ≠ "java/lang/invoke/VarHandle" ∧ (parseMethodDescriptor yX12_standSet.desc).map (fun d => d.parameters.length) = some 0 := by decide +kernel
theorem hdV_X12_stander : yX12_stander.cls = RX12 ∧ yX12_stander.cls ≠ "java/lang/invoke/MethodHandle" ∧ yX12_stander.cls ≠ "java/lang/invoke/VarHandle" ∧ (parseMethodDescriptor yX12_stander.desc).map (fun d => d.parameters.length) = some 2 := by decide +kernel
theorem hdS_X12_stander : yX12_stander.cls ≠ "java/lang/invoke/MethodHandle" ∧ yX12_stander.cls ≠ "java/lang/invoke/VarHandle" ∧ (parseMethodDescriptor yX12_stander.desc).map (fun d => d.parameters.length) = some 2 := by decide +kernel
theorem hdV_X12_standerIs : yX12_standerIs.cls = RX12 ∧ yX12_standerIs.cls ≠ "java/lang/invoke/MethodHandle" ∧ yX12_standerIs.cls ≠ "java/lang/invoke/VarHandle" ∧ (parseMethodDescriptor yX12_standerIs.desc).map (fun d => d.parameters.length) = some 2 := by decide +kernel
theorem hdS_X12_standerIs : yX12_standerIs.cls ≠ "java/lang/invoke/MethodHandle" ∧ yX12_standerIs.cls ≠ "java/lang/invoke/VarHandle" ∧ (parseMethodDescriptor yX12_standerIs.desc).map (fun d => d.parameters.length) = some 2 := by decide +kernel
theorem hdV_X12_standing : yX12_standing.cls = RX12 ∧ yX12_standing.cls ≠ "java/lang/invoke/MethodHandle" ∧ yX12_standing.cls ≠ "java/lang/invoke/VarHandle" ∧ (parseMethodDescriptor yX12_standing.desc).map (fun d => d.parameters.length) = some 1 := by decide +kernel
theorem hdS_X12_standing : yX12_standing.cls ≠ "java/lang/invoke/MethodHandle" ∧ yX12_standing.cls ≠ "java/lang/invoke/VarHandle" ∧ (parseMethodDescriptor yX12_standing.desc).map (fun d => d.parameters.length) = some 1 := by decide +kernel
theorem hdV_X12_stands : yX12_stands.cls = RX12 ∧ yX12_stands.cls ≠ "java/lang/invoke/MethodHandle" ∧ yX12_stands.cls ≠ "java/lang/invoke/VarHandle" ∧ (parseMethodDescriptor yX12_stands.desc).map (fun d => d.parameters.length) = some 1 := by decide +kernel
theorem hdS_X12_stands : yX12_stands.cls ≠ "java/lang/invoke/MethodHandle" ∧ yX12_stands.cls ≠ "java/lang/invoke/VarHandle" ∧ (parseMethodDescriptor yX12_stands.desc).map (fun d => d.parameters.length) = some 1 := by decide +kernel
theorem hdV_X12_standsAt : yX12_standsAt.cls = RX12 ∧ yX12_standsAt.cls ≠ "java/lang/invoke/MethodHandle" ∧ yX12_standsAt.cls ≠ "java/lang/invoke/VarHandle" ∧ (parseMethodDescriptor yX12_standsAt.desc).map (fun d => d.parameters.length) = some 1 := by decide +kernel
theorem hdS_X12_standsAt : yX12_standsAt.cls ≠ "java/lang/invoke/MethodHandle" ∧ yX12_standsAt.cls ≠ "java/lang/invoke/VarHandle" ∧ (parseMethodDescriptor yX12_standsAt.desc).map (fun d => d.parameters.length) = some 1 := by decide +kernel
theorem hdV_X12_step1 : yX12_step1.cls = RX12 ∧ yX12_step1.cls ≠ "java/lang/invoke/MethodHandle" ∧ yX12_step1.cls ≠ "java/lang/invoke/VarHandle" ∧ (parseMethodDescriptor yX12_step1.desc).map (fun d => d.parameters.length) = some 2 := by decide +kernel
theorem hdS_X12_step1 : yX12_step1.cls ≠ "java/lang/invoke/MethodHandle" ∧ yX12_step1.cls ≠ "java/lang/invoke/VarHandle" ∧ (parseMethodDescriptor yX12_step1.desc).map (fun d => d.parameters.length) = some 2 := by decide +kernel
theorem hdV_X12_stirs : yX12_stirs.cls = RX12 ∧ yX12_stirs.cls ≠ "java/lang/invoke/MethodHandle" ∧ yX12_stirs.cls ≠ "java/lang/invoke/VarHandle" ∧ (parseMethodDescriptor yX12_stirs.desc).map (fun d => d.parameters.length) = some 1 := by decide +kernel
theorem hdS_X12_stirs : yX12_stirs.cls ≠ "java/lang/invoke/MethodHandle" ∧ yX12_stirs.cls ≠ "java/lang/invoke/VarHandle" ∧ (parseMethodDescriptor yX12_stirs.desc).map (fun d => d.parameters.length) = some 1 := by decide +kernel
theorem hdV_X12_sum : yX12_sum.cls = RX12 ∧ yX12_sum.cls ≠ "java/lang/invoke/MethodHandle" ∧ yX12_sum.cls ≠ "java/lang/invoke/VarHandle" ∧ (parseMethodDescriptor yX12_sum.desc).map (fun d => d.parameters.length) = some 0 := by decide +kernel
theorem hdS_X12_sum : yX12_sum.cls ≠ "java/lang/invoke/MethodHandle" ∧ yX12_sum.cls ≠ "java/lang/invoke/VarHandle" ∧ (parseMethodDescriptor yX12_sum.desc).map (fun d => d.parameters.length) = some 0 := by decide +kernel
theorem hdV_X12_sun : yX12_sun.cls = RX12 ∧ yX12_sun.cls ≠ "java/lang/invoke/MethodHandle" ∧ yX12_sun.cls ≠ "java/lang/invoke/VarHandle" ∧ (parseMethodDescriptor yX12_sun.desc).map (fun d => d.parameters.length) = some 1 := by decide +kernel
theorem hdS_X12_sun : yX12_sun.cls ≠ "java/lang/invoke/MethodHandle" ∧ yX12_sun.cls ≠ "java/lang/invoke/VarHandle" ∧ (parseMethodDescriptor yX12_sun.desc).map (fun d => d.parameters.length) = some 1 := by decide +kernel
theorem hdV_X12_swap : yX12_swap.cls = RX12 ∧ yX12_swap.cls ≠ "java/lang/invoke/MethodHandle" ∧ yX12_swap.cls ≠ "java/lang/invoke/VarHandle" ∧ (parseMethodDescriptor yX12_swap.desc).map (fun d => d.parameters.length) = some 2 := by decide +kernel
theorem hdS_X12_swap : yX12_swap.cls ≠ "java/lang/invoke/MethodHandle" ∧ yX12_swap.cls ≠ "java/lang/invoke/VarHandle" ∧ (parseMethodDescriptor yX12_swap.desc).map (fun d => d.parameters.length) = some 2 := by decide +kernel
theorem hdV_X12_swaps : yX12_swaps.cls = RX12 ∧ yX12_swaps.cls ≠ "java/lang/invoke/MethodHandle" ∧ yX12_swaps.cls ≠ "java/lang/invoke/VarHandle" ∧ (parseMethodDescriptor yX12_swaps.desc).map (fun d => d.parameters.length) = some 2 := by decide +kernel
theorem hdS_X12_swaps : yX12_swaps.cls ≠ "java/lang/invoke/MethodHandle" ∧ yX12_swaps.cls ≠ "java/lang/invoke/VarHandle" ∧ (parseMethodDescriptor yX12_swaps.desc).map (fun d => d.parameters.length) = some 2 := by decide +kernel
theorem hdV_X12_swaysAs : yX12_swaysAs.cls = RX12 ∧ yX12_swaysAs.cls ≠ "java/lang/invoke/MethodHandle" ∧ yX12_swaysAs.cls ≠ "java/lang/invoke/VarHandle" ∧ (parseMethodDescriptor yX12_swaysAs.desc).map (fun d => d.parameters.length) = some 2 := by decide +kernel
theorem hdS_X12_swaysAs : yX12_swaysAs.cls ≠ "java/lang/invoke/MethodHandle" ∧ yX12_swaysAs.cls ≠ "java/lang/invoke/VarHandle" ∧ (parseMethodDescriptor yX12_swaysAs.desc).map (fun d => d.parameters.length) = some 2 := by decide +kernel
theorem hdV_X12_tell : yX12_tell.cls = RX12 ∧ yX12_tell.cls ≠ "java/lang/invoke/MethodHandle" ∧ yX12_tell.cls ≠ "java/lang/invoke/VarHandle" ∧ (parseMethodDescriptor yX12_tell.desc).map (fun d => d.parameters.length) = some 1 := by decide +kernel
theorem hdS_X12_tell : yX12_tell.cls ≠ "java/lang/invoke/MethodHandle" ∧ yX12_tell.cls ≠ "java/lang/invoke/VarHandle" ∧ (parseMethodDescriptor yX12_tell.desc).map (fun d => d.parameters.length) = some 1 := by decide +kernel
theorem hdV_X12_text : yX12_text.cls = RX12 ∧ yX12_text.cls ≠ "java/lang/invoke/MethodHandle" ∧ yX12_text.cls ≠ "java/lang/invoke/VarHandle" ∧ (parseMethodDescriptor yX12_text.desc).map (fun d => d.parameters.length) = some 1 := by decide +kernel
theorem hdS_X12_text : yX12_text.cls ≠ "java/lang/invoke/MethodHandle" ∧ yX12_text.cls ≠ "java/lang/invoke/VarHandle" ∧ (parseMethodDescriptor yX12_text.desc).map (fun d => d.parameters.length) = some 1 := by decide +kernel
theorem hdV_X12_then : yX12_then.cls = RX12 ∧ yX12_then.cls ≠ "java/lang/invoke/MethodHandle" ∧ yX12_then.cls ≠ "java/lang/invoke/VarHandle" ∧ (parseMethodDescriptor yX12_then.desc).map (fun d => d.parameters.length) = some 3 := by decide +kernel
theorem hdS_X12_then : yX12_then.cls ≠ "java/lang/invoke/MethodHandle" ∧ yX12_then.cls ≠ "java/lang/invoke/VarHandle" ∧ (parseMethodDescriptor yX12_then.desc).map (fun d => d.parameters.length) = some 3 := by decide +kernel
theorem hdV_X12_told : yX12_told.cls = RX12 ∧ yX12_told.cls ≠ "java/lang/invoke/MethodHandle" ∧ yX12_told.cls ≠ "java/lang/invoke/VarHandle" ∧ (parseMethodDescriptor yX12_told.desc).map (fun d => d.parameters.length) = some 1 := by decide +kernel
theorem hdS_X12_told : yX12_told.cls ≠ "java/lang/invoke/MethodHandle" ∧ yX12_told.cls ≠ "java/lang/invoke/VarHandle" ∧ (parseMethodDescriptor yX12_told.desc).map (fun d => d.parameters.length) = some 1 := by decide +kernel
theorem hdV_X12_untell : yX12_untell.cls = RX12 ∧ yX12_untell.cls ≠ "java/lang/invoke/MethodHandle" ∧ yX12_untell.cls ≠ "java/lang/invoke/VarHandle" ∧ (parseMethodDescriptor yX12_untell.desc).map (fun d => d.parameters.length) = some 1 := by decide +kernel
theorem hdS_X12_untell : yX12_untell.cls ≠ "java/lang/invoke/MethodHandle" ∧ yX12_untell.cls ≠ "java/lang/invoke/VarHandle" ∧ (parseMethodDescriptor yX12_untell.desc).map (fun d => d.parameters.length) = some 1 := by decide +kernel
theorem hdV_X12_voice : yX12_voice.cls = RX12 ∧ yX12_voice.cls ≠ "java/lang/invoke/MethodHandle" ∧ yX12_voice.cls ≠ "java/lang/invoke/VarHandle" ∧ (parseMethodDescriptor yX12_voice.desc).map (fun d => d.parameters.length) = some 3 := by decide +kernel
theorem hdS_X12_voice : yX12_voice.cls ≠ "java/lang/invoke/MethodHandle" ∧ yX12_voice.cls ≠ "java/lang/invoke/VarHandle" ∧ (parseMethodDescriptor yX12_voice.desc).map (fun d => d.parameters.length) = some 3 := by decide +kernel
theorem hdV_X12_whole : yX12_whole.cls = RX12 ∧ yX12_whole.cls ≠ "java/lang/invoke/MethodHandle" ∧ yX12_whole.cls ≠ "java/lang/invoke/VarHandle" ∧ (parseMethodDescriptor yX12_whole.desc).map (fun d => d.parameters.length) = some 0 := by decide +kernel
theorem hdS_X12_whole : yX12_whole.cls ≠ "java/lang/invoke/MethodHandle" ∧ yX12_whole.cls ≠ "java/lang/invoke/VarHandle" ∧ (parseMethodDescriptor yX12_whole.desc).map (fun d => d.parameters.length) = some 0 := by decide +kernel
theorem hdV_X12_whose : yX12_whose.cls = RX12 ∧ yX12_whose.cls ≠ "java/lang/invoke/MethodHandle" ∧ yX12_whose.cls ≠ "java/lang/invoke/VarHandle" ∧ (parseMethodDescriptor yX12_whose.desc).map (fun d => d.parameters.length) = some 1 := by decide +kernel
theorem hdS_X12_whose : yX12_whose.cls ≠ "java/lang/invoke/MethodHandle" ∧ yX12_whose.cls ≠ "java/lang/invoke/VarHandle" ∧ (parseMethodDescriptor yX12_whose.desc).map (fun d => d.parameters.length) = some 1 := by decide +kernel
theorem hdV_X12_worked : yX12_worked.cls = RX12 ∧ yX12_worked.cls ≠ "java/lang/invoke/MethodHandle" ∧ yX12_worked.cls ≠ "java/lang/invoke/VarHandle" ∧ (parseMethodDescriptor yX12_worked.desc).map (fun d => d.parameters.length) = some 1 := by decide +kernel
theorem hdS_X12_worked : yX12_worked.cls ≠ "java/lang/invoke/MethodHandle" ∧ yX12_worked.cls ≠ "java/lang/invoke/VarHandle" ∧ (parseMethodDescriptor yX12_worked.desc).map (fun d => d.parameters.length) = some 1 := by decide +kernel
theorem hdS_J6_bitCount_0f7a4 : yJ6_bitCount_0f7a4.cls ≠ "java/lang/invoke/MethodHandle" ∧ yJ6_bitCount_0f7a4.cls ≠ "java/lang/invoke/VarHandle" ∧ (parseMethodDescriptor yJ6_bitCount_0f7a4.desc).map (fun d => d.parameters.length) = some 1 := by decide +kernel
theorem hdS_J9_abs_0f7a4 : yJ9_abs_0f7a4.cls ≠ "java/lang/invoke/MethodHandle" ∧ yJ9_abs_0f7a4.cls ≠ "java/lang/invoke/VarHandle" ∧ (parseMethodDescriptor yJ9_abs_0f7a4.desc).map (fun d => d.parameters.length) = some 1 := by decide +kernel
theorem hdS_J9_max_7cf53 : yJ9_max_7cf53.cls ≠ "java/lang/invoke/MethodHandle" ∧ yJ9_max_7cf53.cls ≠ "java/lang/invoke/VarHandle" ∧ (parseMethodDescriptor yJ9_max_7cf53.desc).map (fun d => d.parameters.length) = some 2 := by decide +kernel
theorem hdS_J9_max_f86c9 : yJ9_max_f86c9.cls ≠ "java/lang/invoke/MethodHandle" ∧ yJ9_max_f86c9.cls ≠ "java/lang/invoke/VarHandle" ∧ (parseMethodDescriptor yJ9_max_f86c9.desc).map (fun d => d.parameters.length) = some 2 := by decide +kernel
theorem hdS_J9_min_7cf53 : yJ9_min_7cf53.cls ≠ "java/lang/invoke/MethodHandle" ∧ yJ9_min_7cf53.cls ≠ "java/lang/invoke/VarHandle" ∧ (parseMethodDescriptor yJ9_min_7cf53.desc).map (fun d => d.parameters.length) = some 2 := by decide +kernel
