theorem tbl_all {ws : List Cond} (h : ws.all (fun w => decide (w ∈ lw_tbl) && goodWord w) = true) : ∀ w ∈ ws, w ∈ tbl := fun w hw => by
  have h1 := List.all_eq_true.mp h w hw
  simp only [Bool.and_eq_true, decide_eq_true_eq] at h1
  exact List.mem_filter.mpr h1
theorem iX1 : ∀ w ∈ u_ws RX1 TX1 9, w ∈ tbl := fun w h => tbl_all (by decide +kernel) w h
theorem iX4 : ∀ w ∈ u_ws RX4 TX4 10, w ∈ tbl := fun w h => tbl_all (by decide +kernel) w h
theorem iX5 : ∀ w ∈ u_ws RX5 TX5 8, w ∈ tbl := fun w h => tbl_all (by decide +kernel) w h
theorem iX6 : ∀ w ∈ u_ws RX6 TX6 7, w ∈ tbl := fun w h => tbl_all (by decide +kernel) w h
theorem iX11 : ∀ w ∈ u_ws RX11 TX11 10, w ∈ tbl := fun w h => tbl_all (by decide +kernel) w h
theorem iX12 : ∀ w ∈ u_ws RX12 TX12 21, w ∈ tbl := fun w h => tbl_all (by decide +kernel) w h
theorem k_23 : (Cond.selects RX12 yX12_lays1 yX12_lays1) ∈ tbl := tbl_m 23 (by decide +kernel) (by decide +kernel)
theorem k_24 : (Cond.selects RX12 yX12_error yX12_error) ∈ tbl := tbl_m 24 (by decide +kernel) (by decide +kernel)
theorem k_35 : (Cond.selects RX12 yX12_hasText yX12_hasText) ∈ tbl := tbl_m 35 (by decide +kernel) (by decide +kernel)
theorem k_36 : (Cond.selects RX12 yX12_its yX12_its) ∈ tbl := tbl_m 36 (by decide +kernel) (by decide +kernel)
theorem k_37 : (Cond.selects RX12 yX12_spends yX12_spends) ∈ tbl := tbl_m 37 (by decide +kernel) (by decide +kernel)
theorem k_38 : (Cond.selects RX12 yX12_spendsTold yX12_spendsTold) ∈ tbl := tbl_m 38 (by decide +kernel) (by decide +kernel)
theorem k_39 : (Cond.selects RX12 yX12_worked yX12_worked) ∈ tbl := tbl_m 39 (by decide +kernel) (by decide +kernel)
theorem k_40 : (Cond.selects RX12 yX12_bite yX12_bite) ∈ tbl := tbl_m 40 (by decide +kernel) (by decide +kernel)
theorem k_41 : (Cond.selects RX12 yX12_stands yX12_stands) ∈ tbl := tbl_m 41 (by decide +kernel) (by decide +kernel)
theorem k_42 : (Cond.selects RX12 yX12_settle yX12_settle) ∈ tbl := tbl_m 42 (by decide +kernel) (by decide +kernel)
theorem k_43 : (Cond.selects RX12 yX12_stirs yX12_stirs) ∈ tbl := tbl_m 43 (by decide +kernel) (by decide +kernel)
theorem k_44 : (Cond.selects RX12 yX12_shaken yX12_shaken) ∈ tbl := tbl_m 44 (by decide +kernel) (by decide +kernel)
theorem k_45 : (Cond.selects RX12 yX12_loses yX12_loses) ∈ tbl := tbl_m 45 (by decide +kernel) (by decide +kernel)
theorem k_46 : (Cond.selects RX12 yX12_swaps yX12_swaps) ∈ tbl := tbl_m 46 (by decide +kernel) (by decide +kernel)
theorem k_47 : (Cond.selects RX12 yX12_change1 yX12_change1) ∈ tbl := tbl_m 47 (by decide +kernel) (by decide +kernel)
theorem k_48 : (Cond.selects RX12 yX12_standsAt yX12_standsAt) ∈ tbl := tbl_m 48 (by decide +kernel) (by decide +kernel)
theorem k_49 : (Cond.selects RX12 yX12_go yX12_go) ∈ tbl := tbl_m 49 (by decide +kernel) (by decide +kernel)
theorem k_50 : (Cond.selects RX12 yX12_minute yX12_minute) ∈ tbl := tbl_m 50 (by decide +kernel) (by decide +kernel)
theorem k_51 : (Cond.selects RX12 yX12_flyAt yX12_flyAt) ∈ tbl := tbl_m 51 (by decide +kernel) (by decide +kernel)
theorem k_52 : (Cond.selects RX12 yX12_pokes yX12_pokes) ∈ tbl := tbl_m 52 (by decide +kernel) (by decide +kernel)
theorem k_53 : (Cond.selects RX12 yX12_draw yX12_draw) ∈ tbl := tbl_m 53 (by decide +kernel) (by decide +kernel)
theorem k_54 : (Cond.selects RX12 yX12_layDown yX12_layDown) ∈ tbl := tbl_m 54 (by decide +kernel) (by decide +kernel)
theorem k_55 : (Cond.selects RX12 yX12_layBack yX12_layBack) ∈ tbl := tbl_m 55 (by decide +kernel) (by decide +kernel)
theorem k_56 : (Cond.selects RX12 yX12_howMany yX12_howMany) ∈ tbl := tbl_m 56 (by decide +kernel) (by decide +kernel)
theorem k_57 : (Cond.selects RX12 yX12_lastAll yX12_lastAll) ∈ tbl := tbl_m 57 (by decide +kernel) (by decide +kernel)
theorem k_58 : (Cond.selects RX12 yX12_standSet yX12_standSet) ∈ tbl := tbl_m 58 (by decide +kernel) (by decide +kernel)
theorem k_66 : (Cond.selects RX12 yX12_lacks yX12_lacks) ∈ tbl := tbl_m 66 (by decide +kernel) (by decide +kernel)
theorem k_80 : (Cond.initialized RX12) ∈ tbl := tbl_m 80 (by decide +kernel) (by decide +kernel)
theorem k_912 : (Cond.methodLink RX12 49 yX12_lays1) ∈ tbl := tbl_m 912 (by decide +kernel) (by decide +kernel)
theorem k_914 : (Cond.instanceMethod yX12_lays1) ∈ tbl := tbl_m 914 (by decide +kernel) (by decide +kernel)
theorem k_915 : (Cond.code yX12_lays1 cX12_lays1 4 none) ∈ tbl := tbl_m 915 (by decide +kernel) (by decide +kernel)
theorem k_916 : (Cond.fieldLink RX12 7 "StandStillModel" "s" "[I") ∈ tbl := tbl_m 916 (by decide +kernel) (by decide +kernel)
theorem k_918 : (Cond.fieldLink RX12 16 "StandStillModel" "layers" "[I") ∈ tbl := tbl_m 918 (by decide +kernel) (by decide +kernel)
theorem k_920 : (Cond.fieldLink RX12 19 "StandStillModel" "errors" "[I") ∈ tbl := tbl_m 920 (by decide +kernel) (by decide +kernel)
theorem k_921 : (Cond.fieldLink RX12 72 "StandStillModel" "at" "I") ∈ tbl := tbl_m 921 (by decide +kernel) (by decide +kernel)
theorem k_922 : (Cond.fieldLink RX12 106 "StandStillModel" "open" "I") ∈ tbl := tbl_m 922 (by decide +kernel) (by decide +kernel)
theorem k_923 : (Cond.fieldLink RX12 79 "StandStillModel" "steps" "I") ∈ tbl := tbl_m 923 (by decide +kernel) (by decide +kernel)
theorem k_924 : (Cond.fieldLink RX12 76 "StandStillModel" "use" "I") ∈ tbl := tbl_m 924 (by decide +kernel) (by decide +kernel)
theorem k_925 : (Cond.fieldLink RX12 22 "StandStillModel" "step" "[I") ∈ tbl := tbl_m 925 (by decide +kernel) (by decide +kernel)
theorem k_926 : (Cond.fieldLink RX12 25 "StandStillModel" "named" "[I") ∈ tbl := tbl_m 926 (by decide +kernel) (by decide +kernel)
theorem k_927 : (Cond.fieldLink RX12 28 "StandStillModel" "pile" "[I") ∈ tbl := tbl_m 927 (by decide +kernel) (by decide +kernel)
theorem k_928 : (Cond.fieldLink RX12 31 "StandStillModel" "until" "[I") ∈ tbl := tbl_m 928 (by decide +kernel) (by decide +kernel)
theorem k_929 : (Cond.fieldLink RX12 34 "StandStillModel" "trace" "[I") ∈ tbl := tbl_m 929 (by decide +kernel) (by decide +kernel)
theorem k_930 : (Cond.fieldLink RX12 210 "StandStillModel" "traced" "I") ∈ tbl := tbl_m 930 (by decide +kernel) (by decide +kernel)
theorem k_931 : (Cond.fieldLink RX12 213 "StandStillModel" "speaks" "I") ∈ tbl := tbl_m 931 (by decide +kernel) (by decide +kernel)
theorem k_933 : (Cond.fieldLink RX12 37 "StandStillModel" "bits" "[I") ∈ tbl := tbl_m 933 (by decide +kernel) (by decide +kernel)
theorem k_934 : (Cond.fieldLink RX12 40 "StandStillModel" "sizes" "[I") ∈ tbl := tbl_m 934 (by decide +kernel) (by decide +kernel)
theorem k_935 : (Cond.fieldLink RX12 43 "StandStillModel" "number" "[I") ∈ tbl := tbl_m 935 (by decide +kernel) (by decide +kernel)
theorem k_936 : (Cond.fieldLink RX12 46 "StandStillModel" "aside" "[I") ∈ tbl := tbl_m 936 (by decide +kernel) (by decide +kernel)
theorem k_984 : (Cond.methodLink RX12 54 yX12_in) ∈ tbl := tbl_m 984 (by decide +kernel) (by decide +kernel)
theorem k_985 : (Cond.static yX12_in) ∈ tbl := tbl_m 985 (by decide +kernel) (by decide +kernel)
theorem k_986 : (Cond.code yX12_in cX12_in 3 (some (.boolean))) ∈ tbl := tbl_m 986 (by decide +kernel) (by decide +kernel)
theorem k_987 : (Cond.methodLink RX12 66 yX12_error) ∈ tbl := tbl_m 987 (by decide +kernel) (by decide +kernel)
theorem k_989 : (Cond.instanceMethod yX12_error) ∈ tbl := tbl_m 989 (by decide +kernel) (by decide +kernel)
theorem k_990 : (Cond.code yX12_error cX12_error 2 (some (.int))) ∈ tbl := tbl_m 990 (by decide +kernel) (by decide +kernel)
theorem k_991 : (Cond.constant RX12 53 (-1000000000)) ∈ tbl := tbl_m 991 (by decide +kernel) (by decide +kernel)
theorem k_992 : (Cond.constantLong RX12 70 (255)) ∈ tbl := tbl_m 992 (by decide +kernel) (by decide +kernel)
theorem k_1041 : (Cond.methodLink RX12 118 yX12_hasText) ∈ tbl := tbl_m 1041 (by decide +kernel) (by decide +kernel)
theorem k_1043 : (Cond.instanceMethod yX12_hasText) ∈ tbl := tbl_m 1043 (by decide +kernel) (by decide +kernel)
theorem k_1044 : (Cond.code yX12_hasText cX12_hasText 2 (some (.boolean))) ∈ tbl := tbl_m 1044 (by decide +kernel) (by decide +kernel)
theorem k_1049 : (Cond.methodLink RX12 159 yX12_isOne) ∈ tbl := tbl_m 1049 (by decide +kernel) (by decide +kernel)
theorem k_1050 : (Cond.static yX12_isOne) ∈ tbl := tbl_m 1050 (by decide +kernel) (by decide +kernel)
theorem k_1051 : (Cond.code yX12_isOne cX12_isOne 1 (some (.boolean))) ∈ tbl := tbl_m 1051 (by decide +kernel) (by decide +kernel)
theorem k_1052 : (Cond.methodLink RX12 58 yX12_its) ∈ tbl := tbl_m 1052 (by decide +kernel) (by decide +kernel)
theorem k_1054 : (Cond.instanceMethod yX12_its) ∈ tbl := tbl_m 1054 (by decide +kernel) (by decide +kernel)
theorem k_1055 : (Cond.code yX12_its cX12_its 3 (some (.int))) ∈ tbl := tbl_m 1055 (by decide +kernel) (by decide +kernel)
theorem k_1060 : (Cond.methodLink RX12 144 yX12_spends) ∈ tbl := tbl_m 1060 (by decide +kernel) (by decide +kernel)
theorem k_1062 : (Cond.instanceMethod yX12_spends) ∈ tbl := tbl_m 1062 (by decide +kernel) (by decide +kernel)
theorem k_1063 : (Cond.code yX12_spends cX12_spends 4 (some (.int))) ∈ tbl := tbl_m 1063 (by decide +kernel) (by decide +kernel)
theorem k_1064 : (Cond.methodLink RX12 128 yX12_spendsTold) ∈ tbl := tbl_m 1064 (by decide +kernel) (by decide +kernel)
theorem k_1066 : (Cond.instanceMethod yX12_spendsTold) ∈ tbl := tbl_m 1066 (by decide +kernel) (by decide +kernel)
theorem k_1067 : (Cond.code yX12_spendsTold cX12_spendsTold 2 (some (.int))) ∈ tbl := tbl_m 1067 (by decide +kernel) (by decide +kernel)
theorem k_1068 : (Cond.methodLink RX12 125 yX12_worked) ∈ tbl := tbl_m 1068 (by decide +kernel) (by decide +kernel)
theorem k_1070 : (Cond.instanceMethod yX12_worked) ∈ tbl := tbl_m 1070 (by decide +kernel) (by decide +kernel)
theorem k_1071 : (Cond.code yX12_worked cX12_worked 7 (some (.int))) ∈ tbl := tbl_m 1071 (by decide +kernel) (by decide +kernel)
theorem k_1072 : (Cond.methodLink RX12 121 yX12_joined) ∈ tbl := tbl_m 1072 (by decide +kernel) (by decide +kernel)
theorem k_1073 : (Cond.static yX12_joined) ∈ tbl := tbl_m 1073 (by decide +kernel) (by decide +kernel)
theorem k_1074 : (Cond.code yX12_joined cX12_joined 3 (some (.int))) ∈ tbl := tbl_m 1074 (by decide +kernel) (by decide +kernel)
theorem k_1075 : (Cond.methodLink RX12 131 yX12_held) ∈ tbl := tbl_m 1075 (by decide +kernel) (by decide +kernel)
theorem k_1076 : (Cond.static yX12_held) ∈ tbl := tbl_m 1076 (by decide +kernel) (by decide +kernel)
theorem k_1077 : (Cond.code yX12_held cX12_held 3 (some (.int))) ∈ tbl := tbl_m 1077 (by decide +kernel) (by decide +kernel)
theorem k_1078 : (Cond.methodLink RX12 153 yX12_bite) ∈ tbl := tbl_m 1078 (by decide +kernel) (by decide +kernel)
theorem k_1080 : (Cond.instanceMethod yX12_bite) ∈ tbl := tbl_m 1080 (by decide +kernel) (by decide +kernel)
theorem k_1081 : (Cond.code yX12_bite cX12_bite 2 (some (.int))) ∈ tbl := tbl_m 1081 (by decide +kernel) (by decide +kernel)
theorem k_1086 : (Cond.methodLink RX12 162 yX12_isUnder) ∈ tbl := tbl_m 1086 (by decide +kernel) (by decide +kernel)
theorem k_1087 : (Cond.static yX12_isUnder) ∈ tbl := tbl_m 1087 (by decide +kernel) (by decide +kernel)
theorem k_1088 : (Cond.code yX12_isUnder cX12_isUnder 2 (some (.boolean))) ∈ tbl := tbl_m 1088 (by decide +kernel) (by decide +kernel)
theorem k_1093 : (Cond.methodLink RX12 62 yX12_stands) ∈ tbl := tbl_m 1093 (by decide +kernel) (by decide +kernel)
theorem k_1095 : (Cond.instanceMethod yX12_stands) ∈ tbl := tbl_m 1095 (by decide +kernel) (by decide +kernel)
theorem k_1096 : (Cond.code yX12_stands cX12_stands 2 (some (.boolean))) ∈ tbl := tbl_m 1096 (by decide +kernel) (by decide +kernel)
theorem k_1097 : (Cond.methodLink RX12 147 yX12_settle) ∈ tbl := tbl_m 1097 (by decide +kernel) (by decide +kernel)
theorem k_1099 : (Cond.instanceMethod yX12_settle) ∈ tbl := tbl_m 1099 (by decide +kernel) (by decide +kernel)
theorem k_1100 : (Cond.code yX12_settle cX12_settle 3 (some (.int))) ∈ tbl := tbl_m 1100 (by decide +kernel) (by decide +kernel)
theorem k_1101 : (Cond.methodLink RX12 140 yX12_stirs) ∈ tbl := tbl_m 1101 (by decide +kernel) (by decide +kernel)
theorem k_1103 : (Cond.instanceMethod yX12_stirs) ∈ tbl := tbl_m 1103 (by decide +kernel) (by decide +kernel)
theorem k_1104 : (Cond.code yX12_stirs cX12_stirs 4 none) ∈ tbl := tbl_m 1104 (by decide +kernel) (by decide +kernel)
theorem k_1105 : (Cond.methodLink RX12 134 yX12_shaken) ∈ tbl := tbl_m 1105 (by decide +kernel) (by decide +kernel)
theorem k_1107 : (Cond.instanceMethod yX12_shaken) ∈ tbl := tbl_m 1107 (by decide +kernel) (by decide +kernel)
theorem k_1108 : (Cond.code yX12_shaken cX12_shaken 4 (some (.int))) ∈ tbl := tbl_m 1108 (by decide +kernel) (by decide +kernel)
theorem k_1109 : (Cond.methodLink RX12 137 yX12_loses) ∈ tbl := tbl_m 1109 (by decide +kernel) (by decide +kernel)
theorem k_1111 : (Cond.instanceMethod yX12_loses) ∈ tbl := tbl_m 1111 (by decide +kernel) (by decide +kernel)
theorem k_1112 : (Cond.code yX12_loses cX12_loses 3 none) ∈ tbl := tbl_m 1112 (by decide +kernel) (by decide +kernel)
theorem k_1117 : (Cond.methodLink RX12 166 yX12_swaps) ∈ tbl := tbl_m 1117 (by decide +kernel) (by decide +kernel)
theorem k_1119 : (Cond.instanceMethod yX12_swaps) ∈ tbl := tbl_m 1119 (by decide +kernel) (by decide +kernel)
theorem k_1120 : (Cond.code yX12_swaps cX12_swaps 4 none) ∈ tbl := tbl_m 1120 (by decide +kernel) (by decide +kernel)
theorem k_1129 : (Cond.methodLink RX12 169 yX12_change1) ∈ tbl := tbl_m 1129 (by decide +kernel) (by decide +kernel)
theorem k_1131 : (Cond.instanceMethod yX12_change1) ∈ tbl := tbl_m 1131 (by decide +kernel) (by decide +kernel)
theorem k_1132 : (Cond.code yX12_change1 cX12_change1 4 (some (.int))) ∈ tbl := tbl_m 1132 (by decide +kernel) (by decide +kernel)
theorem k_1137 : (Cond.methodLink RX12 150 yX12_standsAt) ∈ tbl := tbl_m 1137 (by decide +kernel) (by decide +kernel)
theorem k_1139 : (Cond.instanceMethod yX12_standsAt) ∈ tbl := tbl_m 1139 (by decide +kernel) (by decide +kernel)
theorem k_1140 : (Cond.code yX12_standsAt cX12_standsAt 3 (some (.int))) ∈ tbl := tbl_m 1140 (by decide +kernel) (by decide +kernel)
theorem k_1145 : (Cond.methodLink RX12 172 yX12_go) ∈ tbl := tbl_m 1145 (by decide +kernel) (by decide +kernel)
theorem k_1147 : (Cond.instanceMethod yX12_go) ∈ tbl := tbl_m 1147 (by decide +kernel) (by decide +kernel)
theorem k_1148 : (Cond.code yX12_go cX12_go 4 (some (.int))) ∈ tbl := tbl_m 1148 (by decide +kernel) (by decide +kernel)
theorem k_1149 : (Cond.methodLink RX12 156 yX12_minute) ∈ tbl := tbl_m 1149 (by decide +kernel) (by decide +kernel)
theorem k_1151 : (Cond.instanceMethod yX12_minute) ∈ tbl := tbl_m 1151 (by decide +kernel) (by decide +kernel)
theorem k_1152 : (Cond.code yX12_minute cX12_minute 2 (some (.int))) ∈ tbl := tbl_m 1152 (by decide +kernel) (by decide +kernel)
theorem k_1157 : (Cond.methodLink RX12 175 yX12_flyAt) ∈ tbl := tbl_m 1157 (by decide +kernel) (by decide +kernel)
theorem k_1159 : (Cond.instanceMethod yX12_flyAt) ∈ tbl := tbl_m 1159 (by decide +kernel) (by decide +kernel)
theorem k_1160 : (Cond.code yX12_flyAt cX12_flyAt 3 (some (.int))) ∈ tbl := tbl_m 1160 (by decide +kernel) (by decide +kernel)
theorem k_1165 : (Cond.methodLink RX12 178 yX12_pokes) ∈ tbl := tbl_m 1165 (by decide +kernel) (by decide +kernel)
theorem k_1167 : (Cond.instanceMethod yX12_pokes) ∈ tbl := tbl_m 1167 (by decide +kernel) (by decide +kernel)
theorem k_1168 : (Cond.code yX12_pokes cX12_pokes 2 (some (.int))) ∈ tbl := tbl_m 1168 (by decide +kernel) (by decide +kernel)
theorem k_1173 : (Cond.methodLink RX12 182 yX12_draw) ∈ tbl := tbl_m 1173 (by decide +kernel) (by decide +kernel)
theorem k_1175 : (Cond.instanceMethod yX12_draw) ∈ tbl := tbl_m 1175 (by decide +kernel) (by decide +kernel)
theorem k_1176 : (Cond.code yX12_draw cX12_draw 1 (some (.int))) ∈ tbl := tbl_m 1176 (by decide +kernel) (by decide +kernel)
theorem k_1177 : (Cond.constant RX12 181 (1103515245)) ∈ tbl := tbl_m 1177 (by decide +kernel) (by decide +kernel)
theorem k_1186 : (Cond.methodLink RX12 185 yX12_layDown) ∈ tbl := tbl_m 1186 (by decide +kernel) (by decide +kernel)
theorem k_1188 : (Cond.instanceMethod yX12_layDown) ∈ tbl := tbl_m 1188 (by decide +kernel) (by decide +kernel)
theorem k_1189 : (Cond.code yX12_layDown cX12_layDown 3 none) ∈ tbl := tbl_m 1189 (by decide +kernel) (by decide +kernel)
theorem k_1190 : (Cond.methodLink RX12 188 yX12_layBack) ∈ tbl := tbl_m 1190 (by decide +kernel) (by decide +kernel)
theorem k_1192 : (Cond.instanceMethod yX12_layBack) ∈ tbl := tbl_m 1192 (by decide +kernel) (by decide +kernel)
theorem k_1193 : (Cond.code yX12_layBack cX12_layBack 3 none) ∈ tbl := tbl_m 1193 (by decide +kernel) (by decide +kernel)
theorem k_1198 : (Cond.methodLink RX12 191 yX12_howMany) ∈ tbl := tbl_m 1198 (by decide +kernel) (by decide +kernel)
theorem k_1200 : (Cond.instanceMethod yX12_howMany) ∈ tbl := tbl_m 1200 (by decide +kernel) (by decide +kernel)
theorem k_1201 : (Cond.code yX12_howMany cX12_howMany 3 (some (.int))) ∈ tbl := tbl_m 1201 (by decide +kernel) (by decide +kernel)
theorem k_1206 : (Cond.methodLink RX12 194 yX12_lastAll) ∈ tbl := tbl_m 1206 (by decide +kernel) (by decide +kernel)
theorem k_1208 : (Cond.instanceMethod yX12_lastAll) ∈ tbl := tbl_m 1208 (by decide +kernel) (by decide +kernel)
theorem k_1209 : (Cond.code yX12_lastAll cX12_lastAll 4 none) ∈ tbl := tbl_m 1209 (by decide +kernel) (by decide +kernel)
theorem k_1226 : (Cond.methodLink RX12 197 yX12_standSet) ∈ tbl := tbl_m 1226 (by decide +kernel) (by decide +kernel)
theorem k_1228 : (Cond.instanceMethod yX12_standSet) ∈ tbl := tbl_m 1228 (by decide +kernel) (by decide +kernel)
theorem k_1229 : (Cond.code yX12_standSet cX12_standSet 3 (some (.int))) ∈ tbl := tbl_m 1229 (by decide +kernel) (by decide +kernel)
theorem k_1230 : (Cond.methodLink RX12 200 yX12_bitsOf) ∈ tbl := tbl_m 1230 (by decide +kernel) (by decide +kernel)
theorem k_1231 : (Cond.static yX12_bitsOf) ∈ tbl := tbl_m 1231 (by decide +kernel) (by decide +kernel)
theorem k_1232 : (Cond.code yX12_bitsOf cX12_bitsOf 3 (some (.int))) ∈ tbl := tbl_m 1232 (by decide +kernel) (by decide +kernel)
theorem k_1241 : (Cond.methodLink RX12 203 yX12_isSheet) ∈ tbl := tbl_m 1241 (by decide +kernel) (by decide +kernel)
theorem k_1242 : (Cond.static yX12_isSheet) ∈ tbl := tbl_m 1242 (by decide +kernel) (by decide +kernel)
theorem k_1243 : (Cond.code yX12_isSheet cX12_isSheet 1 (some (.boolean))) ∈ tbl := tbl_m 1243 (by decide +kernel) (by decide +kernel)
theorem k_1244 : (Cond.methodLink RX12 206 yX12_divisor) ∈ tbl := tbl_m 1244 (by decide +kernel) (by decide +kernel)
theorem k_1245 : (Cond.static yX12_divisor) ∈ tbl := tbl_m 1245 (by decide +kernel) (by decide +kernel)
theorem k_1246 : (Cond.code yX12_divisor cX12_divisor 10 (some (.long))) ∈ tbl := tbl_m 1246 (by decide +kernel) (by decide +kernel)
theorem k_1302 : (Cond.methodLink RX12 244 yX12_lacks) ∈ tbl := tbl_m 1302 (by decide +kernel) (by decide +kernel)
theorem k_1304 : (Cond.instanceMethod yX12_lacks) ∈ tbl := tbl_m 1304 (by decide +kernel) (by decide +kernel)
theorem k_1305 : (Cond.code yX12_lacks cX12_lacks 2 (some (.int))) ∈ tbl := tbl_m 1305 (by decide +kernel) (by decide +kernel)
theorem hdV_X12_bite : yX12_bite.cls = RX12 ∧ yX12_bite.cls ≠ "java/lang/invoke/MethodHandle" ∧ yX12_bite.cls ≠ "java/lang/invoke/VarHandle" ∧ (parseMethodDescriptor yX12_bite.desc).map (fun d => d.parameters.length) = some 1 := by decide +kernel
theorem hdS_X12_bitsOf : yX12_bitsOf.cls ≠ "java/lang/invoke/MethodHandle" ∧ yX12_bitsOf.cls ≠ "java/lang/invoke/VarHandle" ∧ (parseMethodDescriptor yX12_bitsOf.desc).map (fun d => d.parameters.length) = some 1 := by decide +kernel
theorem hdV_X12_change1 : yX12_change1.cls = RX12 ∧ yX12_change1.cls ≠ "java/lang/invoke/MethodHandle" ∧ yX12_change1.cls ≠ "java/lang/invoke/VarHandle" ∧ (parseMethodDescriptor yX12_change1.desc).map (fun d => d.parameters.length) = some 2 := by decide +kernel
theorem hdS_X12_divisor : yX12_divisor.cls ≠ "java/lang/invoke/MethodHandle" ∧ yX12_divisor.cls ≠ "java/lang/invoke/VarHandle" ∧ (parseMethodDescriptor yX12_divisor.desc).map (fun d => d.parameters.length) = some 2 := by decide +kernel
theorem hdV_X12_draw : yX12_draw.cls = RX12 ∧ yX12_draw.cls ≠ "java/lang/invoke/MethodHandle" ∧ yX12_draw.cls ≠ "java/lang/invoke/VarHandle" ∧ (parseMethodDescriptor yX12_draw.desc).map (fun d => d.parameters.length) = some 0 := by decide +kernel
theorem hdV_X12_error : yX12_error.cls = RX12 ∧ yX12_error.cls ≠ "java/lang/invoke/MethodHandle" ∧ yX12_error.cls ≠ "java/lang/invoke/VarHandle" ∧ (parseMethodDescriptor yX12_error.desc).map (fun d => d.parameters.length) = some 1 := by decide +kernel
theorem hdV_X12_flyAt : yX12_flyAt.cls = RX12 ∧ yX12_flyAt.cls ≠ "java/lang/invoke/MethodHandle" ∧ yX12_flyAt.cls ≠ "java/lang/invoke/VarHandle" ∧ (parseMethodDescriptor yX12_flyAt.desc).map (fun d => d.parameters.length) = some 1 := by decide +kernel
theorem hdV_X12_go : yX12_go.cls = RX12 ∧ yX12_go.cls ≠ "java/lang/invoke/MethodHandle" ∧ yX12_go.cls ≠ "java/lang/invoke/VarHandle" ∧ (parseMethodDescriptor yX12_go.desc).map (fun d => d.parameters.length) = some 1 := by decide +kernel
theorem hdV_X12_hasText : yX12_hasText.cls = RX12 ∧ yX12_hasText.cls ≠ "java/lang/invoke/MethodHandle" ∧ yX12_hasText.cls ≠ "java/lang/invoke/VarHandle" ∧ (parseMethodDescriptor yX12_hasText.desc).map (fun d => d.parameters.length) = some 1 := by decide +kernel
theorem hdS_X12_held : yX12_held.cls ≠ "java/lang/invoke/MethodHandle" ∧ yX12_held.cls ≠ "java/lang/invoke/VarHandle" ∧ (parseMethodDescriptor yX12_held.desc).map (fun d => d.parameters.length) = some 3 := by decide +kernel
theorem hdV_X12_howMany : yX12_howMany.cls = RX12 ∧ yX12_howMany.cls ≠ "java/lang/invoke/MethodHandle" ∧ yX12_howMany.cls ≠ "java/lang/invoke/VarHandle" ∧ (parseMethodDescriptor yX12_howMany.desc).map (fun d => d.parameters.length) = some 0 := by decide +kernel
theorem hdS_X12_in : yX12_in.cls ≠ "java/lang/invoke/MethodHandle" ∧ yX12_in.cls ≠ "java/lang/invoke/VarHandle" ∧ (parseMethodDescriptor yX12_in.desc).map (fun d => d.parameters.length) = some 3 := by decide +kernel
theorem hdS_X12_isOne : yX12_isOne.cls ≠ "java/lang/invoke/MethodHandle" ∧ yX12_isOne.cls ≠ "java/lang/invoke/VarHandle" ∧ (parseMethodDescriptor yX12_isOne.desc).map (fun d => d.parameters.length) = some 1 := by decide +kernel
theorem hdS_X12_isSheet : yX12_isSheet.cls ≠ "java/lang/invoke/MethodHandle" ∧ yX12_isSheet.cls ≠ "java/lang/invoke/VarHandle" ∧ (parseMethodDescriptor yX12_isSheet.desc).map (fun d => d.parameters.length) = some 1 := by decide +kernel
theorem hdS_X12_isUnder : yX12_isUnder.cls ≠ "java/lang/invoke/MethodHandle" ∧ yX12_isUnder.cls ≠ "java/lang/invoke/VarHandle" ∧ (parseMethodDescriptor yX12_isUnder.desc).map (fun d => d.parameters.length) = some 2 := by decide +kernel
theorem hdV_X12_its : yX12_its.cls = RX12 ∧ yX12_its.cls ≠ "java/lang/invoke/MethodHandle" ∧ yX12_its.cls ≠ "java/lang/invoke/VarHandle" ∧ (parseMethodDescriptor yX12_its.desc).map (fun d => d.parameters.length) = some 2 := by decide +kernel
theorem hdS_X12_joined : yX12_joined.cls ≠ "java/lang/invoke/MethodHandle" ∧ yX12_joined.cls ≠ "java/lang/invoke/VarHandle" ∧ (parseMethodDescriptor yX12_joined.desc).map (fun d => d.parameters.length) = some 3 := by decide +kernel
theorem hdV_X12_lacks : yX12_lacks.cls = RX12 ∧ yX12_lacks.cls ≠ "java/lang/invoke/MethodHandle" ∧ yX12_lacks.cls ≠ "java/lang/invoke/VarHandle" ∧ (parseMethodDescriptor yX12_lacks.desc).map (fun d => d.parameters.length) = some 1 := by decide +kernel
theorem hdV_X12_lastAll : yX12_lastAll.cls = RX12 ∧ yX12_lastAll.cls ≠ "java/lang/invoke/MethodHandle" ∧ yX12_lastAll.cls ≠ "java/lang/invoke/VarHandle" ∧ (parseMethodDescriptor yX12_lastAll.desc).map (fun d => d.parameters.length) = some 0 := by decide +kernel
theorem hdV_X12_layBack : yX12_layBack.cls = RX12 ∧ yX12_layBack.cls ≠ "java/lang/invoke/MethodHandle" ∧ yX12_layBack.cls ≠ "java/lang/invoke/VarHandle" ∧ (parseMethodDescriptor yX12_layBack.desc).map (fun d => d.parameters.length) = some 1 := by decide +kernel
theorem hdV_X12_layDown : yX12_layDown.cls = RX12 ∧ yX12_layDown.cls ≠ "java/lang/invoke/MethodHandle" ∧ yX12_layDown.cls ≠ "java/lang/invoke/VarHandle" ∧ (parseMethodDescriptor yX12_layDown.desc).map (fun d => d.parameters.length) = some 1 := by decide +kernel
theorem hdV_X12_lays1 : yX12_lays1.cls = RX12 ∧ yX12_lays1.cls ≠ "java/lang/invoke/MethodHandle" ∧ yX12_lays1.cls ≠ "java/lang/invoke/VarHandle" ∧ (parseMethodDescriptor yX12_lays1.desc).map (fun d => d.parameters.length) = some 3 := by decide +kernel
theorem hdV_X12_loses : yX12_loses.cls = RX12 ∧ yX12_loses.cls ≠ "java/lang/invoke/MethodHandle" ∧ yX12_loses.cls ≠ "java/lang/invoke/VarHandle" ∧ (parseMethodDescriptor yX12_loses.desc).map (fun d => d.parameters.length) = some 2 := by decide +kernel
theorem hdV_X12_minute : yX12_minute.cls = RX12 ∧ yX12_minute.cls ≠ "java/lang/invoke/MethodHandle" ∧ yX12_minute.cls ≠ "java/lang/invoke/VarHandle" ∧ (parseMethodDescriptor yX12_minute.desc).map (fun d => d.parameters.length) = some 0 := by decide +kernel
theorem hdV_X12_pokes : yX12_pokes.cls = RX12 ∧ yX12_pokes.cls ≠ "java/lang/invoke/MethodHandle" ∧ yX12_pokes.cls ≠ "java/lang/invoke/VarHandle" ∧ (parseMethodDescriptor yX12_pokes.desc).map (fun d => d.parameters.length) = some 1 := by decide +kernel
theorem hdV_X12_settle : yX12_settle.cls = RX12 ∧ yX12_settle.cls ≠ "java/lang/invoke/MethodHandle" ∧ yX12_settle.cls ≠ "java/lang/invoke/VarHandle" ∧ (parseMethodDescriptor yX12_settle.desc).map (fun d => d.parameters.length) = some 0 := by decide +kernel
theorem hdV_X12_shaken : yX12_shaken.cls = RX12 ∧ yX12_shaken.cls ≠ "java/lang/invoke/MethodHandle" ∧ yX12_shaken.cls ≠ "java/lang/invoke/VarHandle" ∧ (parseMethodDescriptor yX12_shaken.desc).map (fun d => d.parameters.length) = some 2 := by decide +kernel
theorem hdV_X12_spends : yX12_spends.cls = RX12 ∧ yX12_spends.cls ≠ "java/lang/invoke/MethodHandle" ∧ yX12_spends.cls ≠ "java/lang/invoke/VarHandle" ∧ (parseMethodDescriptor yX12_spends.desc).map (fun d => d.parameters.length) = some 1 := by decide +kernel
theorem hdV_X12_spendsTold : yX12_spendsTold.cls = RX12 ∧ yX12_spendsTold.cls ≠ "java/lang/invoke/MethodHandle" ∧ yX12_spendsTold.cls ≠ "java/lang/invoke/VarHandle" ∧ (parseMethodDescriptor yX12_spendsTold.desc).map (fun d => d.parameters.length) = some 1 := by decide +kernel
theorem hdV_X12_standSet : yX12_standSet.cls = RX12 ∧ yX12_standSet.cls ≠ "java/lang/invoke/MethodHandle" ∧ yX12_standSet.cls ≠ "java/lang/invoke/VarHandle" ∧ (parseMethodDescriptor yX12_standSet.desc).map (fun d => d.parameters.length) = some 0 := by decide +kernel
theorem hdV_X12_stands : yX12_stands.cls = RX12 ∧ yX12_stands.cls ≠ "java/lang/invoke/MethodHandle" ∧ yX12_stands.cls ≠ "java/lang/invoke/VarHandle" ∧ (parseMethodDescriptor yX12_stands.desc).map (fun d => d.parameters.length) = some 1 := by decide +kernel
theorem hdV_X12_standsAt : yX12_standsAt.cls = RX12 ∧ yX12_standsAt.cls ≠ "java/lang/invoke/MethodHandle" ∧ yX12_standsAt.cls ≠ "java/lang/invoke/VarHandle" ∧ (parseMethodDescriptor yX12_standsAt.desc).map (fun d => d.parameters.length) = some 1 := by decide +kernel
theorem hdV_X12_stirs : yX12_stirs.cls = RX12 ∧ yX12_stirs.cls ≠ "java/lang/invoke/MethodHandle" ∧ yX12_stirs.cls ≠ "java/lang/invoke/VarHandle" ∧ (parseMethodDescriptor yX12_stirs.desc).map (fun d => d.parameters.length) = some 1 := by decide +kernel
theorem hdV_X12_swaps : yX12_swaps.cls = RX12 ∧ yX12_swaps.cls ≠ "java/lang/invoke/MethodHandle" ∧ yX12_swaps.cls ≠ "java/lang/invoke/VarHandle" ∧ (parseMethodDescriptor yX12_swaps.desc).map (fun d => d.parameters.length) = some 2 := by decide +kernel
theorem hdV_X12_worked : yX12_worked.cls = RX12 ∧ yX12_worked.cls ≠ "java/lang/invoke/MethodHandle" ∧ yX12_worked.cls ≠ "java/lang/invoke/VarHandle" ∧ (parseMethodDescriptor yX12_worked.desc).map (fun d => d.parameters.length) = some 1 := by decide +kernel
