theorem tbl_all {ws : List Cond} (h : ws.all (fun w => decide (w ∈ lw_tbl) && goodWord w) = true) : ∀ w ∈ ws, w ∈ tbl := fun w hw => by
  have h1 := List.all_eq_true.mp h w hw
  simp only [Bool.and_eq_true, decide_eq_true_eq] at h1
  exact List.mem_filter.mpr h1
theorem iX1 : ∀ w ∈ u_ws RX1 TX1 9, w ∈ tbl := fun w h => tbl_all (by decide +kernel) w h
theorem iX4 : ∀ w ∈ u_ws RX4 TX4 10, w ∈ tbl := fun w h => tbl_all (by decide +kernel) w h
theorem iX5 : ∀ w ∈ u_ws RX5 TX5 8, w ∈ tbl := fun w h => tbl_all (by decide +kernel) w h
theorem iX6 : ∀ w ∈ u_ws RX6 TX6 7, w ∈ tbl := fun w h => tbl_all (by decide +kernel) w h
theorem iX11 : ∀ w ∈ u_ws RX11 TX11 10, w ∈ tbl := fun w h => tbl_all (by decide +kernel) w h
theorem iX12 : ∀ w ∈ u_ws RX12 TX12 21, w ∈ tbl := fun w h => tbl_all (by decide +kernel) w h
theorem k_36 : (Cond.selects RX12 yX12_its yX12_its) ∈ tbl := tbl_m 36 (by decide +kernel) (by decide +kernel)
theorem k_41 : (Cond.selects RX12 yX12_stands yX12_stands) ∈ tbl := tbl_m 41 (by decide +kernel) (by decide +kernel)
theorem k_80 : (Cond.initialized RX12) ∈ tbl := tbl_m 80 (by decide +kernel) (by decide +kernel)
theorem k_916 : (Cond.fieldLink RX12 7 "StandStillModel" "s" "[I") ∈ tbl := tbl_m 916 (by decide +kernel) (by decide +kernel)
theorem k_918 : (Cond.fieldLink RX12 16 "StandStillModel" "layers" "[I") ∈ tbl := tbl_m 918 (by decide +kernel) (by decide +kernel)
theorem k_920 : (Cond.fieldLink RX12 19 "StandStillModel" "errors" "[I") ∈ tbl := tbl_m 920 (by decide +kernel) (by decide +kernel)
theorem k_991 : (Cond.constant RX12 53 (-1000000000)) ∈ tbl := tbl_m 991 (by decide +kernel) (by decide +kernel)
theorem k_1052 : (Cond.methodLink RX12 58 yX12_its) ∈ tbl := tbl_m 1052 (by decide +kernel) (by decide +kernel)
theorem k_1054 : (Cond.instanceMethod yX12_its) ∈ tbl := tbl_m 1054 (by decide +kernel) (by decide +kernel)
theorem k_1055 : (Cond.code yX12_its cX12_its 3 (some (.int))) ∈ tbl := tbl_m 1055 (by decide +kernel) (by decide +kernel)
theorem k_1093 : (Cond.methodLink RX12 62 yX12_stands) ∈ tbl := tbl_m 1093 (by decide +kernel) (by decide +kernel)
theorem k_1095 : (Cond.instanceMethod yX12_stands) ∈ tbl := tbl_m 1095 (by decide +kernel) (by decide +kernel)
theorem k_1096 : (Cond.code yX12_stands cX12_stands 2 (some (.boolean))) ∈ tbl := tbl_m 1096 (by decide +kernel) (by decide +kernel)
theorem hdV_X12_its : yX12_its.cls = RX12 ∧ yX12_its.cls ≠ "java/lang/invoke/MethodHandle" ∧ yX12_its.cls ≠ "java/lang/invoke/VarHandle" ∧ (parseMethodDescriptor yX12_its.desc).map (fun d => d.parameters.length) = some 2 := by decide +kernel
theorem hdV_X12_stands : yX12_stands.cls = RX12 ∧ yX12_stands.cls ≠ "java/lang/invoke/MethodHandle" ∧ yX12_stands.cls ≠ "java/lang/invoke/VarHandle" ∧ (parseMethodDescriptor yX12_stands.desc).map (fun d => d.parameters.length) = some 1 := by decide +kernel
