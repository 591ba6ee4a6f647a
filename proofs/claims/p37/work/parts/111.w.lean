def f_X11_isOf_k3 (μ : Mem) (x1 : Int32) : Option (Mem × Int32) := (if x1 = (1 : Int32) then some (μ, (0 : Int32)) else (if x1 = (2 : Int32) then some (μ, (0 : Int32)) else (if x1 = (3 : Int32) then some (μ, (1 : Int32)) else (if x1 = (4 : Int32) then some (μ, (0 : Int32)) else (if x1 = (5 : Int32) then some (μ, (0 : Int32)) else (if x1 = (6 : Int32) then some (μ, (0 : Int32)) else (if x1 = 0 then some (μ, (1 : Int32)) else some (μ, (0 : Int32)))))))))
set_option maxHeartbeats 4000000 in
set_option maxRecDepth 20000 in
theorem c_X11_isOf_k3 (tn tt : Nat) (E : Ev) (h : Nat → Nat) (g : Nat → Option Nat) {μ : Mem} {x1 : Int32} {r : (Mem × Int32)} (hf : f_X11_isOf_k3 μ x1 = some r) : CtF tn tt E yX11_isOf cX11_isOf 2 (some .boolean) (rmOf 0 0) (wK E h g μ) (wK E h g r.1) [.ref (h 3), .int x1] (some (.int r.2)) := by
  refine ctF_start RX11 0 (by decide) rfl (Nat.le_of_ble_eq_true rfl) ?_
  intro p l e s m args below meth c A Q X F hr hlk hQ
  rw [f_X11_isOf_k3] at hf
  refine j_iload_n X dX11_isOf_0 rfl rfl ?_
  by_cases n_1_0 : x1 = (1 : Int32)
  · replace hf := (if_pos n_1_0).symm.trans hf
    refine j_tsI (k := (1 : Int32)) (tgt := 40) X n_1_0 dX11_isOf_1 (by decide) (by decide) rfl (by decide) ?_
    refine j_aload_n X dX11_isOf_40 rfl rfl ?_
    refine j_inN X F 3 (wK_3 ..) rfl k_100 (by decide +kernel) dX11_isOf_41 ?_
    obtain rfl := Option.some.inj hf
    exact j_iret X hr hlk rfl dX11_isOf_44 hQ
  · replace hf := (if_neg n_1_0).symm.trans hf
    by_cases n_1_1 : x1 = (2 : Int32)
    · replace hf := (if_pos n_1_1).symm.trans hf
      refine j_tsI (k := (2 : Int32)) (tgt := 45) X n_1_1 dX11_isOf_1 (by decide) (by decide) rfl (by decide) ?_
      refine j_aload_n X dX11_isOf_45 rfl rfl ?_
      refine j_inN X F 3 (wK_3 ..) rfl k_107 (by decide +kernel) dX11_isOf_46 ?_
      obtain rfl := Option.some.inj hf
      exact j_iret X hr hlk rfl dX11_isOf_49 hQ
    · replace hf := (if_neg n_1_1).symm.trans hf
      by_cases n_1_2 : x1 = (3 : Int32)
      · replace hf := (if_pos n_1_2).symm.trans hf
        refine j_tsI (k := (3 : Int32)) (tgt := 50) X n_1_2 dX11_isOf_1 (by decide) (by decide) rfl (by decide) ?_
        refine j_aload_n X dX11_isOf_50 rfl rfl ?_
        refine j_inS X 3 (wK_3 ..) rfl k_114 dX11_isOf_51 ?_
        obtain rfl := Option.some.inj hf
        exact j_iret X hr hlk rfl dX11_isOf_54 hQ
      · replace hf := (if_neg n_1_2).symm.trans hf
        by_cases n_1_3 : x1 = (4 : Int32)
        · replace hf := (if_pos n_1_3).symm.trans hf
          refine j_tsI (k := (4 : Int32)) (tgt := 55) X n_1_3 dX11_isOf_1 (by decide) (by decide) rfl (by decide) ?_
          refine j_aload_n X dX11_isOf_55 rfl rfl ?_
          refine j_inN X F 3 (wK_3 ..) rfl k_121 (by decide +kernel) dX11_isOf_56 ?_
          obtain rfl := Option.some.inj hf
          exact j_iret X hr hlk rfl dX11_isOf_59 hQ
        · replace hf := (if_neg n_1_3).symm.trans hf
          by_cases n_1_4 : x1 = (5 : Int32)
          · replace hf := (if_pos n_1_4).symm.trans hf
            refine j_tsI (k := (5 : Int32)) (tgt := 60) X n_1_4 dX11_isOf_1 (by decide) (by decide) rfl (by decide) ?_
            refine j_aload_n X dX11_isOf_60 rfl rfl ?_
            refine j_inN X F 3 (wK_3 ..) rfl k_128 (by decide +kernel) dX11_isOf_61 ?_
            obtain rfl := Option.some.inj hf
            exact j_iret X hr hlk rfl dX11_isOf_64 hQ
          · replace hf := (if_neg n_1_4).symm.trans hf
            by_cases n_1_5 : x1 = (6 : Int32)
            · replace hf := (if_pos n_1_5).symm.trans hf
              refine j_tsI (k := (6 : Int32)) (tgt := 65) X n_1_5 dX11_isOf_1 (by decide) (by decide) rfl (by decide) ?_
              refine j_aload_n X dX11_isOf_65 rfl rfl ?_
              refine j_inN X F 3 (wK_3 ..) rfl k_135 (by decide +kernel) dX11_isOf_66 ?_
              obtain rfl := Option.some.inj hf
              exact j_iret X hr hlk rfl dX11_isOf_69 hQ
            · replace hf := (if_neg n_1_5).symm.trans hf
              refine j_tsD (tgt := 70) X [1, 2, 3, 4, 5, 6] (List.forall_mem_cons.mpr ⟨lv_neT n_1_0 (a := 1) rfl, List.forall_mem_cons.mpr ⟨lv_neT n_1_1 (a := 2) rfl, List.forall_mem_cons.mpr ⟨lv_neT n_1_2 (a := 3) rfl, List.forall_mem_cons.mpr ⟨lv_neT n_1_3 (a := 4) rfl, List.forall_mem_cons.mpr ⟨lv_neT n_1_4 (a := 5) rfl, List.forall_mem_cons.mpr ⟨lv_neT n_1_5 (a := 6) rfl, fun _ h => by cases h⟩⟩⟩⟩⟩⟩) (by decide) (by decide) dX11_isOf_1 (by decide) ?_
              refine j_iload_n X dX11_isOf_70 rfl rfl ?_
              refine j_if_ne (tgt := 78) X dX11_isOf_71 (by decide) (fun c_71 => ?_) (fun c_71 => ?_)
              · replace hf := (if_neg c_71).symm.trans hf
                refine j_iconst (v := (0 : Int32)) X dX11_isOf_78 (by decide) ?_
                obtain rfl := Option.some.inj hf
                exact j_iret X hr hlk rfl dX11_isOf_79 hQ
              · replace hf := (if_pos c_71).symm.trans hf
                refine j_iconst (v := (1 : Int32)) X dX11_isOf_74 (by decide) ?_
                refine j_goto (tgt := 79) X dX11_isOf_75 (by decide) ?_
                obtain rfl := Option.some.inj hf
                exact j_iret X hr hlk rfl dX11_isOf_79 hQ
def f_X11_isOf_k4 (μ : Mem) (x1 : Int32) : Option (Mem × Int32) := (if x1 = (1 : Int32) then some (μ, (1 : Int32)) else (if x1 = (2 : Int32) then some (μ, (0 : Int32)) else (if x1 = (3 : Int32) then some (μ, (0 : Int32)) else (if x1 = (4 : Int32) then some (μ, (1 : Int32)) else (if x1 = (5 : Int32) then some (μ, (0 : Int32)) else (if x1 = (6 : Int32) then some (μ, (0 : Int32)) else (if x1 = 0 then some (μ, (1 : Int32)) else some (μ, (0 : Int32)))))))))
set_option maxHeartbeats 4000000 in
set_option maxRecDepth 20000 in
theorem c_X11_isOf_k4 (tn tt : Nat) (E : Ev) (h : Nat → Nat) (g : Nat → Option Nat) {μ : Mem} {x1 : Int32} {r : (Mem × Int32)} (hf : f_X11_isOf_k4 μ x1 = some r) : CtF tn tt E yX11_isOf cX11_isOf 2 (some .boolean) (rmOf 0 0) (wK E h g μ) (wK E h g r.1) [.ref (h 4), .int x1] (some (.int r.2)) := by
  refine ctF_start RX11 0 (by decide) rfl (Nat.le_of_ble_eq_true rfl) ?_
  intro p l e s m args below meth c A Q X F hr hlk hQ
  rw [f_X11_isOf_k4] at hf
  refine j_iload_n X dX11_isOf_0 rfl rfl ?_
  by_cases n_1_0 : x1 = (1 : Int32)
  · replace hf := (if_pos n_1_0).symm.trans hf
    refine j_tsI (k := (1 : Int32)) (tgt := 40) X n_1_0 dX11_isOf_1 (by decide) (by decide) rfl (by decide) ?_
    refine j_aload_n X dX11_isOf_40 rfl rfl ?_
    refine j_inY X F 4 (wK_4 ..) rfl k_100 (by decide +kernel) dX11_isOf_41 ?_
    obtain rfl := Option.some.inj hf
    exact j_iret X hr hlk rfl dX11_isOf_44 hQ
  · replace hf := (if_neg n_1_0).symm.trans hf
    by_cases n_1_1 : x1 = (2 : Int32)
    · replace hf := (if_pos n_1_1).symm.trans hf
      refine j_tsI (k := (2 : Int32)) (tgt := 45) X n_1_1 dX11_isOf_1 (by decide) (by decide) rfl (by decide) ?_
      refine j_aload_n X dX11_isOf_45 rfl rfl ?_
      refine j_inN X F 4 (wK_4 ..) rfl k_107 (by decide +kernel) dX11_isOf_46 ?_
      obtain rfl := Option.some.inj hf
      exact j_iret X hr hlk rfl dX11_isOf_49 hQ
    · replace hf := (if_neg n_1_1).symm.trans hf
      by_cases n_1_2 : x1 = (3 : Int32)
      · replace hf := (if_pos n_1_2).symm.trans hf
        refine j_tsI (k := (3 : Int32)) (tgt := 50) X n_1_2 dX11_isOf_1 (by decide) (by decide) rfl (by decide) ?_
        refine j_aload_n X dX11_isOf_50 rfl rfl ?_
        refine j_inN X F 4 (wK_4 ..) rfl k_114 (by decide +kernel) dX11_isOf_51 ?_
        obtain rfl := Option.some.inj hf
        exact j_iret X hr hlk rfl dX11_isOf_54 hQ
      · replace hf := (if_neg n_1_2).symm.trans hf
        by_cases n_1_3 : x1 = (4 : Int32)
        · replace hf := (if_pos n_1_3).symm.trans hf
          refine j_tsI (k := (4 : Int32)) (tgt := 55) X n_1_3 dX11_isOf_1 (by decide) (by decide) rfl (by decide) ?_
          refine j_aload_n X dX11_isOf_55 rfl rfl ?_
          refine j_inS X 4 (wK_4 ..) rfl k_121 dX11_isOf_56 ?_
          obtain rfl := Option.some.inj hf
          exact j_iret X hr hlk rfl dX11_isOf_59 hQ
        · replace hf := (if_neg n_1_3).symm.trans hf
          by_cases n_1_4 : x1 = (5 : Int32)
          · replace hf := (if_pos n_1_4).symm.trans hf
            refine j_tsI (k := (5 : Int32)) (tgt := 60) X n_1_4 dX11_isOf_1 (by decide) (by decide) rfl (by decide) ?_
            refine j_aload_n X dX11_isOf_60 rfl rfl ?_
            refine j_inN X F 4 (wK_4 ..) rfl k_128 (by decide +kernel) dX11_isOf_61 ?_
            obtain rfl := Option.some.inj hf
            exact j_iret X hr hlk rfl dX11_isOf_64 hQ
          · replace hf := (if_neg n_1_4).symm.trans hf
            by_cases n_1_5 : x1 = (6 : Int32)
            · replace hf := (if_pos n_1_5).symm.trans hf
              refine j_tsI (k := (6 : Int32)) (tgt := 65) X n_1_5 dX11_isOf_1 (by decide) (by decide) rfl (by decide) ?_
              refine j_aload_n X dX11_isOf_65 rfl rfl ?_
              refine j_inN X F 4 (wK_4 ..) rfl k_135 (by decide +kernel) dX11_isOf_66 ?_
              obtain rfl := Option.some.inj hf
              exact j_iret X hr hlk rfl dX11_isOf_69 hQ
            · replace hf := (if_neg n_1_5).symm.trans hf
              refine j_tsD (tgt := 70) X [1, 2, 3, 4, 5, 6] (List.forall_mem_cons.mpr ⟨lv_neT n_1_0 (a := 1) rfl, List.forall_mem_cons.mpr ⟨lv_neT n_1_1 (a := 2) rfl, List.forall_mem_cons.mpr ⟨lv_neT n_1_2 (a := 3) rfl, List.forall_mem_cons.mpr ⟨lv_neT n_1_3 (a := 4) rfl, List.forall_mem_cons.mpr ⟨lv_neT n_1_4 (a := 5) rfl, List.forall_mem_cons.mpr ⟨lv_neT n_1_5 (a := 6) rfl, fun _ h => by cases h⟩⟩⟩⟩⟩⟩) (by decide) (by decide) dX11_isOf_1 (by decide) ?_
              refine j_iload_n X dX11_isOf_70 rfl rfl ?_
              refine j_if_ne (tgt := 78) X dX11_isOf_71 (by decide) (fun c_71 => ?_) (fun c_71 => ?_)
              · replace hf := (if_neg c_71).symm.trans hf
                refine j_iconst (v := (0 : Int32)) X dX11_isOf_78 (by decide) ?_
                obtain rfl := Option.some.inj hf
                exact j_iret X hr hlk rfl dX11_isOf_79 hQ
              · replace hf := (if_pos c_71).symm.trans hf
                refine j_iconst (v := (1 : Int32)) X dX11_isOf_74 (by decide) ?_
                refine j_goto (tgt := 79) X dX11_isOf_75 (by decide) ?_
                obtain rfl := Option.some.inj hf
                exact j_iret X hr hlk rfl dX11_isOf_79 hQ
def f_X11_isOf_k5 (μ : Mem) (x1 : Int32) : Option (Mem × Int32) := (if x1 = (1 : Int32) then some (μ, (0 : Int32)) else (if x1 = (2 : Int32) then some (μ, (1 : Int32)) else (if x1 = (3 : Int32) then some (μ, (0 : Int32)) else (if x1 = (4 : Int32) then some (μ, (0 : Int32)) else (if x1 = (5 : Int32) then some (μ, (1 : Int32)) else (if x1 = (6 : Int32) then some (μ, (0 : Int32)) else (if x1 = 0 then some (μ, (1 : Int32)) else some (μ, (0 : Int32)))))))))
set_option maxHeartbeats 4000000 in
set_option maxRecDepth 20000 in
theorem c_X11_isOf_k5 (tn tt : Nat) (E : Ev) (h : Nat → Nat) (g : Nat → Option Nat) {μ : Mem} {x1 : Int32} {r : (Mem × Int32)} (hf : f_X11_isOf_k5 μ x1 = some r) : CtF tn tt E yX11_isOf cX11_isOf 2 (some .boolean) (rmOf 0 0) (wK E h g μ) (wK E h g r.1) [.ref (h 5), .int x1] (some (.int r.2)) := by
  refine ctF_start RX11 0 (by decide) rfl (Nat.le_of_ble_eq_true rfl) ?_
  intro p l e s m args below meth c A Q X F hr hlk hQ
  rw [f_X11_isOf_k5] at hf
  refine j_iload_n X dX11_isOf_0 rfl rfl ?_
  by_cases n_1_0 : x1 = (1 : Int32)
  · replace hf := (if_pos n_1_0).symm.trans hf
    refine j_tsI (k := (1 : Int32)) (tgt := 40) X n_1_0 dX11_isOf_1 (by decide) (by decide) rfl (by decide) ?_
    refine j_aload_n X dX11_isOf_40 rfl rfl ?_
    refine j_inN X F 5 (wK_5 ..) rfl k_100 (by decide +kernel) dX11_isOf_41 ?_
    obtain rfl := Option.some.inj hf
    exact j_iret X hr hlk rfl dX11_isOf_44 hQ
  · replace hf := (if_neg n_1_0).symm.trans hf
    by_cases n_1_1 : x1 = (2 : Int32)
    · replace hf := (if_pos n_1_1).symm.trans hf
      refine j_tsI (k := (2 : Int32)) (tgt := 45) X n_1_1 dX11_isOf_1 (by decide) (by decide) rfl (by decide) ?_
      refine j_aload_n X dX11_isOf_45 rfl rfl ?_
      refine j_inY X F 5 (wK_5 ..) rfl k_107 (by decide +kernel) dX11_isOf_46 ?_
      obtain rfl := Option.some.inj hf
      exact j_iret X hr hlk rfl dX11_isOf_49 hQ
    · replace hf := (if_neg n_1_1).symm.trans hf
      by_cases n_1_2 : x1 = (3 : Int32)
      · replace hf := (if_pos n_1_2).symm.trans hf
        refine j_tsI (k := (3 : Int32)) (tgt := 50) X n_1_2 dX11_isOf_1 (by decide) (by decide) rfl (by decide) ?_
        refine j_aload_n X dX11_isOf_50 rfl rfl ?_
        refine j_inN X F 5 (wK_5 ..) rfl k_114 (by decide +kernel) dX11_isOf_51 ?_
        obtain rfl := Option.some.inj hf
        exact j_iret X hr hlk rfl dX11_isOf_54 hQ
      · replace hf := (if_neg n_1_2).symm.trans hf
        by_cases n_1_3 : x1 = (4 : Int32)
        · replace hf := (if_pos n_1_3).symm.trans hf
          refine j_tsI (k := (4 : Int32)) (tgt := 55) X n_1_3 dX11_isOf_1 (by decide) (by decide) rfl (by decide) ?_
          refine j_aload_n X dX11_isOf_55 rfl rfl ?_
          refine j_inN X F 5 (wK_5 ..) rfl k_121 (by decide +kernel) dX11_isOf_56 ?_
          obtain rfl := Option.some.inj hf
          exact j_iret X hr hlk rfl dX11_isOf_59 hQ
        · replace hf := (if_neg n_1_3).symm.trans hf
          by_cases n_1_4 : x1 = (5 : Int32)
          · replace hf := (if_pos n_1_4).symm.trans hf
            refine j_tsI (k := (5 : Int32)) (tgt := 60) X n_1_4 dX11_isOf_1 (by decide) (by decide) rfl (by decide) ?_
            refine j_aload_n X dX11_isOf_60 rfl rfl ?_
            refine j_inS X 5 (wK_5 ..) rfl k_128 dX11_isOf_61 ?_
            obtain rfl := Option.some.inj hf
            exact j_iret X hr hlk rfl dX11_isOf_64 hQ
          · replace hf := (if_neg n_1_4).symm.trans hf
            by_cases n_1_5 : x1 = (6 : Int32)
            · replace hf := (if_pos n_1_5).symm.trans hf
              refine j_tsI (k := (6 : Int32)) (tgt := 65) X n_1_5 dX11_isOf_1 (by decide) (by decide) rfl (by decide) ?_
              refine j_aload_n X dX11_isOf_65 rfl rfl ?_
              refine j_inN X F 5 (wK_5 ..) rfl k_135 (by decide +kernel) dX11_isOf_66 ?_
              obtain rfl := Option.some.inj hf
              exact j_iret X hr hlk rfl dX11_isOf_69 hQ
            · replace hf := (if_neg n_1_5).symm.trans hf
              refine j_tsD (tgt := 70) X [1, 2, 3, 4, 5, 6] (List.forall_mem_cons.mpr ⟨lv_neT n_1_0 (a := 1) rfl, List.forall_mem_cons.mpr ⟨lv_neT n_1_1 (a := 2) rfl, List.forall_mem_cons.mpr ⟨lv_neT n_1_2 (a := 3) rfl, List.forall_mem_cons.mpr ⟨lv_neT n_1_3 (a := 4) rfl, List.forall_mem_cons.mpr ⟨lv_neT n_1_4 (a := 5) rfl, List.forall_mem_cons.mpr ⟨lv_neT n_1_5 (a := 6) rfl, fun _ h => by cases h⟩⟩⟩⟩⟩⟩) (by decide) (by decide) dX11_isOf_1 (by decide) ?_
              refine j_iload_n X dX11_isOf_70 rfl rfl ?_
              refine j_if_ne (tgt := 78) X dX11_isOf_71 (by decide) (fun c_71 => ?_) (fun c_71 => ?_)
              · replace hf := (if_neg c_71).symm.trans hf
                refine j_iconst (v := (0 : Int32)) X dX11_isOf_78 (by decide) ?_
                obtain rfl := Option.some.inj hf
                exact j_iret X hr hlk rfl dX11_isOf_79 hQ
              · replace hf := (if_pos c_71).symm.trans hf
                refine j_iconst (v := (1 : Int32)) X dX11_isOf_74 (by decide) ?_
                refine j_goto (tgt := 79) X dX11_isOf_75 (by decide) ?_
                obtain rfl := Option.some.inj hf
                exact j_iret X hr hlk rfl dX11_isOf_79 hQ
def f_X11_isOf_k6 (μ : Mem) (x1 : Int32) : Option (Mem × Int32) := (if x1 = (1 : Int32) then some (μ, (0 : Int32)) else (if x1 = (2 : Int32) then some (μ, (0 : Int32)) else (if x1 = (3 : Int32) then some (μ, (0 : Int32)) else (if x1 = (4 : Int32) then some (μ, (0 : Int32)) else (if x1 = (5 : Int32) then some (μ, (0 : Int32)) else (if x1 = (6 : Int32) then some (μ, (1 : Int32)) else (if x1 = 0 then some (μ, (1 : Int32)) else some (μ, (0 : Int32)))))))))
set_option maxHeartbeats 4000000 in
set_option maxRecDepth 20000 in
theorem c_X11_isOf_k6 (tn tt : Nat) (E : Ev) (h : Nat → Nat) (g : Nat → Option Nat) {μ : Mem} {x1 : Int32} {r : (Mem × Int32)} (hf : f_X11_isOf_k6 μ x1 = some r) : CtF tn tt E yX11_isOf cX11_isOf 2 (some .boolean) (rmOf 0 0) (wK E h g μ) (wK E h g r.1) [.ref (h 6), .int x1] (some (.int r.2)) := by
  refine ctF_start RX11 0 (by decide) rfl (Nat.le_of_ble_eq_true rfl) ?_
  intro p l e s m args below meth c A Q X F hr hlk hQ
  rw [f_X11_isOf_k6] at hf
  refine j_iload_n X dX11_isOf_0 rfl rfl ?_
  by_cases n_1_0 : x1 = (1 : Int32)
  · replace hf := (if_pos n_1_0).symm.trans hf
    refine j_tsI (k := (1 : Int32)) (tgt := 40) X n_1_0 dX11_isOf_1 (by decide) (by decide) rfl (by decide) ?_
    refine j_aload_n X dX11_isOf_40 rfl rfl ?_
    refine j_inN X F 6 (wK_6 ..) rfl k_100 (by decide +kernel) dX11_isOf_41 ?_
    obtain rfl := Option.some.inj hf
    exact j_iret X hr hlk rfl dX11_isOf_44 hQ
  · replace hf := (if_neg n_1_0).symm.trans hf
    by_cases n_1_1 : x1 = (2 : Int32)
    · replace hf := (if_pos n_1_1).symm.trans hf
      refine j_tsI (k := (2 : Int32)) (tgt := 45) X n_1_1 dX11_isOf_1 (by decide) (by decide) rfl (by decide) ?_
      refine j_aload_n X dX11_isOf_45 rfl rfl ?_
      refine j_inN X F 6 (wK_6 ..) rfl k_107 (by decide +kernel) dX11_isOf_46 ?_
      obtain rfl := Option.some.inj hf
      exact j_iret X hr hlk rfl dX11_isOf_49 hQ
    · replace hf := (if_neg n_1_1).symm.trans hf
      by_cases n_1_2 : x1 = (3 : Int32)
      · replace hf := (if_pos n_1_2).symm.trans hf
        refine j_tsI (k := (3 : Int32)) (tgt := 50) X n_1_2 dX11_isOf_1 (by decide) (by decide) rfl (by decide) ?_
        refine j_aload_n X dX11_isOf_50 rfl rfl ?_
        refine j_inN X F 6 (wK_6 ..) rfl k_114 (by decide +kernel) dX11_isOf_51 ?_
        obtain rfl := Option.some.inj hf
        exact j_iret X hr hlk rfl dX11_isOf_54 hQ
      · replace hf := (if_neg n_1_2).symm.trans hf
        by_cases n_1_3 : x1 = (4 : Int32)
        · replace hf := (if_pos n_1_3).symm.trans hf
          refine j_tsI (k := (4 : Int32)) (tgt := 55) X n_1_3 dX11_isOf_1 (by decide) (by decide) rfl (by decide) ?_
          refine j_aload_n X dX11_isOf_55 rfl rfl ?_
          refine j_inN X F 6 (wK_6 ..) rfl k_121 (by decide +kernel) dX11_isOf_56 ?_
          obtain rfl := Option.some.inj hf
          exact j_iret X hr hlk rfl dX11_isOf_59 hQ
        · replace hf := (if_neg n_1_3).symm.trans hf
          by_cases n_1_4 : x1 = (5 : Int32)
          · replace hf := (if_pos n_1_4).symm.trans hf
            refine j_tsI (k := (5 : Int32)) (tgt := 60) X n_1_4 dX11_isOf_1 (by decide) (by decide) rfl (by decide) ?_
            refine j_aload_n X dX11_isOf_60 rfl rfl ?_
            refine j_inN X F 6 (wK_6 ..) rfl k_128 (by decide +kernel) dX11_isOf_61 ?_
            obtain rfl := Option.some.inj hf
            exact j_iret X hr hlk rfl dX11_isOf_64 hQ
          · replace hf := (if_neg n_1_4).symm.trans hf
            by_cases n_1_5 : x1 = (6 : Int32)
            · replace hf := (if_pos n_1_5).symm.trans hf
              refine j_tsI (k := (6 : Int32)) (tgt := 65) X n_1_5 dX11_isOf_1 (by decide) (by decide) rfl (by decide) ?_
              refine j_aload_n X dX11_isOf_65 rfl rfl ?_
              refine j_inS X 6 (wK_6 ..) rfl k_135 dX11_isOf_66 ?_
              obtain rfl := Option.some.inj hf
              exact j_iret X hr hlk rfl dX11_isOf_69 hQ
            · replace hf := (if_neg n_1_5).symm.trans hf
              refine j_tsD (tgt := 70) X [1, 2, 3, 4, 5, 6] (List.forall_mem_cons.mpr ⟨lv_neT n_1_0 (a := 1) rfl, List.forall_mem_cons.mpr ⟨lv_neT n_1_1 (a := 2) rfl, List.forall_mem_cons.mpr ⟨lv_neT n_1_2 (a := 3) rfl, List.forall_mem_cons.mpr ⟨lv_neT n_1_3 (a := 4) rfl, List.forall_mem_cons.mpr ⟨lv_neT n_1_4 (a := 5) rfl, List.forall_mem_cons.mpr ⟨lv_neT n_1_5 (a := 6) rfl, fun _ h => by cases h⟩⟩⟩⟩⟩⟩) (by decide) (by decide) dX11_isOf_1 (by decide) ?_
              refine j_iload_n X dX11_isOf_70 rfl rfl ?_
              refine j_if_ne (tgt := 78) X dX11_isOf_71 (by decide) (fun c_71 => ?_) (fun c_71 => ?_)
              · replace hf := (if_neg c_71).symm.trans hf
                refine j_iconst (v := (0 : Int32)) X dX11_isOf_78 (by decide) ?_
                obtain rfl := Option.some.inj hf
                exact j_iret X hr hlk rfl dX11_isOf_79 hQ
              · replace hf := (if_pos c_71).symm.trans hf
                refine j_iconst (v := (1 : Int32)) X dX11_isOf_74 (by decide) ?_
                refine j_goto (tgt := 79) X dX11_isOf_75 (by decide) ?_
                obtain rfl := Option.some.inj hf
                exact j_iret X hr hlk rfl dX11_isOf_79 hQ
def f_X11_as (μ : Mem) (x1 : Int32) (x2 : Int32) : Option (Mem × Int32) := (f_X11_isStander x1).bind fun q1 => ((if q1 = 0 then (f_X11_fails μ (1 : Int32)).bind fun q2 => (some (q2.1, q2.2)) else (f_X11_within x2 (0 : Int32) (6 : Int32)).bind fun q3 => ((if q3 = 0 then (f_X11_fails μ (1 : Int32)).bind fun q34 => (some (q34.1, q34.2)) else (f_X4_kindOf (sub [23, 24, 25, 26, 27, 28, 7, 8, 9, 10, 11, 12, 13, 14, 66, 67, 68, 69, 70, 71, 72, 73] μ) x1).bind fun q4 => (bd (put [23, 24, 25, 26, 27, 28, 7, 8, 9, 10, 11, 12, 13, 14, 66, 67, 68, 69, 70, 71, 72, 73] μ q4.1) fun μ5 => ((if q4.2 = 15 then (f_X11_isOf_k0 (sub [67, 68, 69, 70, 71, 72, 73] μ5) x2).bind fun q6 => (bd (put [67, 68, 69, 70, 71, 72, 73] μ5 q6.1) fun μ7 => ((if q6.2 = 0 then (f_X11_fails μ7 (5 : Int32)).bind fun q9 => (some (q9.1, q9.2)) else (if inb x1 9 = true then some (μ7, (μ7 25 x1.toNatClampNeg)) else none)))) else (if q4.2 = 16 then (f_X11_isOf_k1 (sub [67, 68, 69, 70, 71, 72, 73] μ5) x2).bind fun q10 => (bd (put [67, 68, 69, 70, 71, 72, 73] μ5 q10.1) fun μ11 => ((if q10.2 = 0 then (f_X11_fails μ11 (5 : Int32)).bind fun q13 => (some (q13.1, q13.2)) else (if inb x1 9 = true then some (μ11, (μ11 25 x1.toNatClampNeg)) else none)))) else (if q4.2 = 17 then (f_X11_isOf_k2 (sub [67, 68, 69, 70, 71, 72, 73] μ5) x2).bind fun q14 => (bd (put [67, 68, 69, 70, 71, 72, 73] μ5 q14.1) fun μ15 => ((if q14.2 = 0 then (f_X11_fails μ15 (5 : Int32)).bind fun q17 => (some (q17.1, q17.2)) else (if inb x1 9 = true then some (μ15, (μ15 25 x1.toNatClampNeg)) else none)))) else (if q4.2 = 18 then (f_X11_isOf_k3 (sub [67, 68, 69, 70, 71, 72, 73] μ5) x2).bind fun q18 => (bd (put [67, 68, 69, 70, 71, 72, 73] μ5 q18.1) fun μ19 => ((if q18.2 = 0 then (f_X11_fails μ19 (5 : Int32)).bind fun q21 => (some (q21.1, q21.2)) else (if inb x1 9 = true then some (μ19, (μ19 25 x1.toNatClampNeg)) else none)))) else (if q4.2 = 19 then (f_X11_isOf_k4 (sub [67, 68, 69, 70, 71, 72, 73] μ5) x2).bind fun q22 => (bd (put [67, 68, 69, 70, 71, 72, 73] μ5 q22.1) fun μ23 => ((if q22.2 = 0 then (f_X11_fails μ23 (5 : Int32)).bind fun q25 => (some (q25.1, q25.2)) else (if inb x1 9 = true then some (μ23, (μ23 25 x1.toNatClampNeg)) else none)))) else (if q4.2 = 20 then (f_X11_isOf_k5 (sub [67, 68, 69, 70, 71, 72, 73] μ5) x2).bind fun q26 => (bd (put [67, 68, 69, 70, 71, 72, 73] μ5 q26.1) fun μ27 => ((if q26.2 = 0 then (f_X11_fails μ27 (5 : Int32)).bind fun q29 => (some (q29.1, q29.2)) else (if inb x1 9 = true then some (μ27, (μ27 25 x1.toNatClampNeg)) else none)))) else (if q4.2 = 21 then (f_X11_isOf_k6 (sub [67, 68, 69, 70, 71, 72, 73] μ5) x2).bind fun q30 => (bd (put [67, 68, 69, 70, 71, 72, 73] μ5 q30.1) fun μ31 => ((if q30.2 = 0 then (f_X11_fails μ31 (5 : Int32)).bind fun q33 => (some (q33.1, q33.2)) else (if inb x1 9 = true then some (μ31, (μ31 25 x1.toNatClampNeg)) else none)))) else none)))))))))))))
set_option maxHeartbeats 4000000 in
set_option maxRecDepth 20000 in
theorem c_X11_as (tn tt : Nat) (E : Ev) (h : Nat → Nat) (g : Nat → Option Nat) {μ : Mem} {x1 : Int32} {x2 : Int32} {r : (Mem × Int32)} (hf : f_X11_as μ x1 x2 = some r) : CtF tn tt E yX11_as cX11_as 3 (some .int) (rmOf 2 42) (wX E h g μ) (wX E h g r.1) [.ref (h 0), .int x1, .int x2] (some (.int r.2)) := by
  refine ctF_start RX11 0 (by decide) rfl (Nat.le_of_ble_eq_true rfl) ?_
  intro p l e s m args below meth c A Q X F hr hlk hQ
  rw [f_X11_as] at hf
  refine j_iload_n X dX11_as_0 rfl rfl ?_
  obtain ⟨q1, g_q1, hf⟩ := ob_t hf
  refine j_callS X [] (c_X11_isStander E g_q1) rfl rfl rfl (ws' := (wX E h g μ)) rfl k_345 k_346 k_68 k_347 (⟨rfl, rfl⟩) hdS_X11_isStander ⟨Nat.le_of_ble_eq_true rfl, Nat.le_of_ble_eq_true rfl⟩ rfl (Nat.le_of_ble_eq_true rfl) rfl dX11_as_1 ?_
  refine j_if_eq (tgt := 17) X dX11_as_4 (by decide) (fun c_4 => ?_) (fun c_4 => ?_)
  · replace hf := (if_pos c_4).symm.trans hf
    refine j_aload_n X dX11_as_17 rfl rfl ?_
    refine j_iconst (v := (1 : Int32)) X dX11_as_18 (by decide) ?_
    obtain ⟨q2, g_q2, hf⟩ := ob_t hf
    refine j_callV X [0, 1, 2, 3, 4, 5, 6, 7, 8, 9, 10, 11, 12, 13, 14, 15, 16, 17, 18, 19, 20, 21, 22, 23, 24, 25, 26, 27, 28, 29, 30, 31, 32, 33, 34, 35, 36, 37, 38, 39, 40, 41, 42, 43, 44, 45, 46, 47, 48, 49, 50, 51, 52, 53, 54, 55, 56, 57, 58, 59, 60, 61, 62, 63, 64, 65, 66, 67, 68, 69, 70, 71, 72, 73, 74, 75, 76, 77, 78, 79, 80, 81, 82, 83, 84] 0 (c_X11_fails E h g g_q2) (cut_wX_wX_c ..) rfl rfl (ws' := (wX E h g q2.1)) (cut_wX_wX_w ..) (wX_0 ..) rfl k_351 k_353 k_0 k_68 k_354 (⟨rfl, rfl⟩) hdV_X11_fails ⟨Nat.le_of_ble_eq_true rfl, Nat.le_of_ble_eq_true rfl⟩ rfl (Nat.le_of_ble_eq_true rfl) rfl dX11_as_19 ?_
    obtain rfl := Option.some.inj hf
    exact j_iret X hr hlk rfl dX11_as_22 hQ
  · replace hf := (if_neg c_4).symm.trans hf
    refine j_iload_n X dX11_as_7 rfl rfl ?_
    refine j_iconst (v := (0 : Int32)) X dX11_as_8 (by decide) ?_
    refine j_bipush (v := (6 : Int32)) X dX11_as_9 (by decide) ?_
    obtain ⟨q3, g_q3, hf⟩ := ob_t hf
    refine j_callS X [] (c_X11_within E g_q3) rfl rfl rfl (ws' := (wX E h g μ)) rfl k_348 k_349 k_68 k_350 (⟨rfl, rfl⟩) hdS_X11_within ⟨Nat.le_of_ble_eq_true rfl, Nat.le_of_ble_eq_true rfl⟩ rfl (Nat.le_of_ble_eq_true rfl) rfl dX11_as_11 ?_
    refine j_if_ne (tgt := 23) X dX11_as_14 (by decide) (fun c_14 => ?_) (fun c_14 => ?_)
    · replace hf := (if_neg c_14).symm.trans hf
      refine j_aload_n X dX11_as_23 rfl rfl ?_
      refine j_get (C := RX11) (T := TX11) (N := 10) X iX11 0 (wX_0 ..) rfl 0 (by decide) k_310 rfl rfl dX11_as_24 ?_
      refine j_get (C := RX5) (T := TX5) (N := 8) X iX5 1 (wX_1 ..) rfl 2 (by decide) k_239 rfl rfl dX11_as_27 ?_
      refine j_iload_n X dX11_as_30 rfl rfl ?_
      obtain ⟨q4, g_q4, hf⟩ := ob_t hf
      obtain ⟨μ5, e_μ5, hf⟩ := bd_e hf
      refine j_callV X [23, 24, 25, 26, 27, 28, 7, 8, 9, 10, 11, 12, 13, 14, 66, 67, 68, 69, 70, 71, 72, 73] 0 (c_X4_kindOf E (fun j => h (List.getD [23, 24, 25, 26, 27, 28, 7, 8, 9, 10, 11, 12, 13, 14, 66, 67, 68, 69, 70, 71, 72, 73] j 0)) (fun j => g (List.getD [0, 1] j 0)) g_q4) (cut_wX_wR_23_24_25_c ..) rfl rfl (ws' := (wX E h g μ5)) (by rw [e_μ5]; exact cut_wX_wR_23_24_25_w ..) (wR_0 ..) rfl k_446 k_365 k_366 k_78 k_367 (⟨rfl, rfl⟩) hdV_X4_kindOf ⟨Nat.le_of_ble_eq_true rfl, Nat.le_of_ble_eq_true rfl⟩ rfl (Nat.le_of_ble_eq_true rfl) rfl dX11_as_31 ?_
      by_cases n_31_0 : q4.2 = 15
      · replace hf := (if_pos n_31_0).symm.trans hf
        refine j_stk (st' := [.ref (h 67)]) (by rw [n_31_0]; rfl) ?_
        refine j_iload_n X dX11_as_34 rfl rfl ?_
        obtain ⟨q6, g_q6, hf⟩ := ob_t hf
        obtain ⟨μ7, e_μ7, hf⟩ := bd_e hf
        refine j_callSF X F [67, 68, 69, 70, 71, 72, 73] (c_X11_isOf_k0 tn tt E (fun j => h (List.getD [67, 68, 69, 70, 71, 72, 73] j 0)) (fun j => g (List.getD [] j 0)) g_q6) (cut_wX_wK_67_68_69_c ..) rfl rfl (ws' := (wX E h g μ7)) (by rw [e_μ7]; exact cut_wX_wK_67_68_69_w ..) k_447 k_448 k_68 k_449 (⟨rfl, rfl⟩) hdS_X11_isOf ⟨Nat.le_of_ble_eq_true rfl, Nat.le_of_ble_eq_true rfl⟩ rfl (Nat.le_of_ble_eq_true rfl) rfl dX11_as_35 ?_
        refine j_if_ne (tgt := 47) X dX11_as_38 (by decide) (fun c_38 => ?_) (fun c_38 => ?_)
        · replace hf := (if_neg c_38).symm.trans hf
          refine j_aload_n X dX11_as_47 rfl rfl ?_
          refine j_get (C := RX11) (T := TX11) (N := 10) X iX11 0 (wX_0 ..) rfl 0 (by decide) k_310 rfl rfl dX11_as_48 ?_
          refine j_get (C := RX5) (T := TX5) (N := 8) X iX5 1 (wX_1 ..) rfl 2 (by decide) k_239 rfl rfl dX11_as_51 ?_
          refine j_get (C := RX4) (T := TX4) (N := 10) X iX4 23 (wX_23 ..) rfl 1 (by decide) k_195 rfl rfl dX11_as_54 ?_
          refine j_iload_n X dX11_as_57 rfl rfl ?_
          obtain ⟨c8, hf⟩ := oi_in hf
          refine j_iald X 25 (wX_25 ..) c8 dX11_as_58 ?_
          obtain rfl := Option.some.inj hf
          exact j_iret X hr hlk rfl dX11_as_59 hQ
        · replace hf := (if_pos c_38).symm.trans hf
          refine j_aload_n X dX11_as_41 rfl rfl ?_
          refine j_iconst (v := (5 : Int32)) X dX11_as_42 (by decide) ?_
          obtain ⟨q9, g_q9, hf⟩ := ob_t hf
          refine j_callV X [0, 1, 2, 3, 4, 5, 6, 7, 8, 9, 10, 11, 12, 13, 14, 15, 16, 17, 18, 19, 20, 21, 22, 23, 24, 25, 26, 27, 28, 29, 30, 31, 32, 33, 34, 35, 36, 37, 38, 39, 40, 41, 42, 43, 44, 45, 46, 47, 48, 49, 50, 51, 52, 53, 54, 55, 56, 57, 58, 59, 60, 61, 62, 63, 64, 65, 66, 67, 68, 69, 70, 71, 72, 73, 74, 75, 76, 77, 78, 79, 80, 81, 82, 83, 84] 0 (c_X11_fails E h g g_q9) (cut_wX_wX_c ..) rfl rfl (ws' := (wX E h g q9.1)) (cut_wX_wX_w ..) (wX_0 ..) rfl k_351 k_353 k_0 k_68 k_354 (⟨rfl, rfl⟩) hdV_X11_fails ⟨Nat.le_of_ble_eq_true rfl, Nat.le_of_ble_eq_true rfl⟩ rfl (Nat.le_of_ble_eq_true rfl) rfl dX11_as_43 ?_
          obtain rfl := Option.some.inj hf
          exact j_iret X hr hlk rfl dX11_as_46 hQ
      · replace hf := (if_neg n_31_0).symm.trans hf
        by_cases n_31_1 : q4.2 = 16
        · replace hf := (if_pos n_31_1).symm.trans hf
          refine j_stk (st' := [.ref (h 68)]) (by rw [n_31_1]; rfl) ?_
          refine j_iload_n X dX11_as_34 rfl rfl ?_
          obtain ⟨q10, g_q10, hf⟩ := ob_t hf
          obtain ⟨μ11, e_μ11, hf⟩ := bd_e hf
          refine j_callSF X F [67, 68, 69, 70, 71, 72, 73] (c_X11_isOf_k1 tn tt E (fun j => h (List.getD [67, 68, 69, 70, 71, 72, 73] j 0)) (fun j => g (List.getD [] j 0)) g_q10) (cut_wX_wK_67_68_69_c ..) rfl rfl (ws' := (wX E h g μ11)) (by rw [e_μ11]; exact cut_wX_wK_67_68_69_w ..) k_447 k_448 k_68 k_449 (⟨rfl, rfl⟩) hdS_X11_isOf ⟨Nat.le_of_ble_eq_true rfl, Nat.le_of_ble_eq_true rfl⟩ rfl (Nat.le_of_ble_eq_true rfl) rfl dX11_as_35 ?_
          refine j_if_ne (tgt := 47) X dX11_as_38 (by decide) (fun c_38 => ?_) (fun c_38 => ?_)
          · replace hf := (if_neg c_38).symm.trans hf
            refine j_aload_n X dX11_as_47 rfl rfl ?_
            refine j_get (C := RX11) (T := TX11) (N := 10) X iX11 0 (wX_0 ..) rfl 0 (by decide) k_310 rfl rfl dX11_as_48 ?_
            refine j_get (C := RX5) (T := TX5) (N := 8) X iX5 1 (wX_1 ..) rfl 2 (by decide) k_239 rfl rfl dX11_as_51 ?_
            refine j_get (C := RX4) (T := TX4) (N := 10) X iX4 23 (wX_23 ..) rfl 1 (by decide) k_195 rfl rfl dX11_as_54 ?_
            refine j_iload_n X dX11_as_57 rfl rfl ?_
            obtain ⟨c12, hf⟩ := oi_in hf
            refine j_iald X 25 (wX_25 ..) c12 dX11_as_58 ?_
            obtain rfl := Option.some.inj hf
            exact j_iret X hr hlk rfl dX11_as_59 hQ
          · replace hf := (if_pos c_38).symm.trans hf
            refine j_aload_n X dX11_as_41 rfl rfl ?_
            refine j_iconst (v := (5 : Int32)) X dX11_as_42 (by decide) ?_
            obtain ⟨q13, g_q13, hf⟩ := ob_t hf
            refine j_callV X [0, 1, 2, 3, 4, 5, 6, 7, 8, 9, 10, 11, 12, 13, 14, 15, 16, 17, 18, 19, 20, 21, 22, 23, 24, 25, 26, 27, 28, 29, 30, 31, 32, 33, 34, 35, 36, 37, 38, 39, 40, 41, 42, 43, 44, 45, 46, 47, 48, 49, 50, 51, 52, 53, 54, 55, 56, 57, 58, 59, 60, 61, 62, 63, 64, 65, 66, 67, 68, 69, 70, 71, 72, 73, 74, 75, 76, 77, 78, 79, 80, 81, 82, 83, 84] 0 (c_X11_fails E h g g_q13) (cut_wX_wX_c ..) rfl rfl (ws' := (wX E h g q13.1)) (cut_wX_wX_w ..) (wX_0 ..) rfl k_351 k_353 k_0 k_68 k_354 (⟨rfl, rfl⟩) hdV_X11_fails ⟨Nat.le_of_ble_eq_true rfl, Nat.le_of_ble_eq_true rfl⟩ rfl (Nat.le_of_ble_eq_true rfl) rfl dX11_as_43 ?_
            obtain rfl := Option.some.inj hf
            exact j_iret X hr hlk rfl dX11_as_46 hQ
        · replace hf := (if_neg n_31_1).symm.trans hf
          by_cases n_31_2 : q4.2 = 17
          · replace hf := (if_pos n_31_2).symm.trans hf
            refine j_stk (st' := [.ref (h 69)]) (by rw [n_31_2]; rfl) ?_
            refine j_iload_n X dX11_as_34 rfl rfl ?_
            obtain ⟨q14, g_q14, hf⟩ := ob_t hf
            obtain ⟨μ15, e_μ15, hf⟩ := bd_e hf
            refine j_callSF X F [67, 68, 69, 70, 71, 72, 73] (c_X11_isOf_k2 tn tt E (fun j => h (List.getD [67, 68, 69, 70, 71, 72, 73] j 0)) (fun j => g (List.getD [] j 0)) g_q14) (cut_wX_wK_67_68_69_c ..) rfl rfl (ws' := (wX E h g μ15)) (by rw [e_μ15]; exact cut_wX_wK_67_68_69_w ..) k_447 k_448 k_68 k_449 (⟨rfl, rfl⟩) hdS_X11_isOf ⟨Nat.le_of_ble_eq_true rfl, Nat.le_of_ble_eq_true rfl⟩ rfl (Nat.le_of_ble_eq_true rfl) rfl dX11_as_35 ?_
            refine j_if_ne (tgt := 47) X dX11_as_38 (by decide) (fun c_38 => ?_) (fun c_38 => ?_)
            · replace hf := (if_neg c_38).symm.trans hf
              refine j_aload_n X dX11_as_47 rfl rfl ?_
              refine j_get (C := RX11) (T := TX11) (N := 10) X iX11 0 (wX_0 ..) rfl 0 (by decide) k_310 rfl rfl dX11_as_48 ?_
              refine j_get (C := RX5) (T := TX5) (N := 8) X iX5 1 (wX_1 ..) rfl 2 (by decide) k_239 rfl rfl dX11_as_51 ?_
              refine j_get (C := RX4) (T := TX4) (N := 10) X iX4 23 (wX_23 ..) rfl 1 (by decide) k_195 rfl rfl dX11_as_54 ?_
              refine j_iload_n X dX11_as_57 rfl rfl ?_
              obtain ⟨c16, hf⟩ := oi_in hf
              refine j_iald X 25 (wX_25 ..) c16 dX11_as_58 ?_
              obtain rfl := Option.some.inj hf
              exact j_iret X hr hlk rfl dX11_as_59 hQ
            · replace hf := (if_pos c_38).symm.trans hf
              refine j_aload_n X dX11_as_41 rfl rfl ?_
              refine j_iconst (v := (5 : Int32)) X dX11_as_42 (by decide) ?_
              obtain ⟨q17, g_q17, hf⟩ := ob_t hf
              refine j_callV X [0, 1, 2, 3, 4, 5, 6, 7, 8, 9, 10, 11, 12, 13, 14, 15, 16, 17, 18, 19, 20, 21, 22, 23, 24, 25, 26, 27, 28, 29, 30, 31, 32, 33, 34, 35, 36, 37, 38, 39, 40, 41, 42, 43, 44, 45, 46, 47, 48, 49, 50, 51, 52, 53, 54, 55, 56, 57, 58, 59, 60, 61, 62, 63, 64, 65, 66, 67, 68, 69, 70, 71, 72, 73, 74, 75, 76, 77, 78, 79, 80, 81, 82, 83, 84] 0 (c_X11_fails E h g g_q17) (cut_wX_wX_c ..) rfl rfl (ws' := (wX E h g q17.1)) (cut_wX_wX_w ..) (wX_0 ..) rfl k_351 k_353 k_0 k_68 k_354 (⟨rfl, rfl⟩) hdV_X11_fails ⟨Nat.le_of_ble_eq_true rfl, Nat.le_of_ble_eq_true rfl⟩ rfl (Nat.le_of_ble_eq_true rfl) rfl dX11_as_43 ?_
              obtain rfl := Option.some.inj hf
              exact j_iret X hr hlk rfl dX11_as_46 hQ
          · replace hf := (if_neg n_31_2).symm.trans hf
            by_cases n_31_3 : q4.2 = 18
            · replace hf := (if_pos n_31_3).symm.trans hf
              refine j_stk (st' := [.ref (h 70)]) (by rw [n_31_3]; rfl) ?_
              refine j_iload_n X dX11_as_34 rfl rfl ?_
              obtain ⟨q18, g_q18, hf⟩ := ob_t hf
              obtain ⟨μ19, e_μ19, hf⟩ := bd_e hf
              refine j_callSF X F [67, 68, 69, 70, 71, 72, 73] (c_X11_isOf_k3 tn tt E (fun j => h (List.getD [67, 68, 69, 70, 71, 72, 73] j 0)) (fun j => g (List.getD [] j 0)) g_q18) (cut_wX_wK_67_68_69_c ..) rfl rfl (ws' := (wX E h g μ19)) (by rw [e_μ19]; exact cut_wX_wK_67_68_69_w ..) k_447 k_448 k_68 k_449 (⟨rfl, rfl⟩) hdS_X11_isOf ⟨Nat.le_of_ble_eq_true rfl, Nat.le_of_ble_eq_true rfl⟩ rfl (Nat.le_of_ble_eq_true rfl) rfl dX11_as_35 ?_
              refine j_if_ne (tgt := 47) X dX11_as_38 (by decide) (fun c_38 => ?_) (fun c_38 => ?_)
              · replace hf := (if_neg c_38).symm.trans hf
                refine j_aload_n X dX11_as_47 rfl rfl ?_
                refine j_get (C := RX11) (T := TX11) (N := 10) X iX11 0 (wX_0 ..) rfl 0 (by decide) k_310 rfl rfl dX11_as_48 ?_
                refine j_get (C := RX5) (T := TX5) (N := 8) X iX5 1 (wX_1 ..) rfl 2 (by decide) k_239 rfl rfl dX11_as_51 ?_
                refine j_get (C := RX4) (T := TX4) (N := 10) X iX4 23 (wX_23 ..) rfl 1 (by decide) k_195 rfl rfl dX11_as_54 ?_
                refine j_iload_n X dX11_as_57 rfl rfl ?_
                obtain ⟨c20, hf⟩ := oi_in hf
                refine j_iald X 25 (wX_25 ..) c20 dX11_as_58 ?_
                obtain rfl := Option.some.inj hf
                exact j_iret X hr hlk rfl dX11_as_59 hQ
              · replace hf := (if_pos c_38).symm.trans hf
                refine j_aload_n X dX11_as_41 rfl rfl ?_
                refine j_iconst (v := (5 : Int32)) X dX11_as_42 (by decide) ?_
                obtain ⟨q21, g_q21, hf⟩ := ob_t hf
                refine j_callV X [0, 1, 2, 3, 4, 5, 6, 7, 8, 9, 10, 11, 12, 13, 14, 15, 16, 17, 18, 19, 20, 21, 22, 23, 24, 25, 26, 27, 28, 29, 30, 31, 32, 33, 34, 35, 36, 37, 38, 39, 40, 41, 42, 43, 44, 45, 46, 47, 48, 49, 50, 51, 52, 53, 54, 55, 56, 57, 58, 59, 60, 61, 62, 63, 64, 65, 66, 67, 68, 69, 70, 71, 72, 73, 74, 75, 76, 77, 78, 79, 80, 81, 82, 83, 84] 0 (c_X11_fails E h g g_q21) (cut_wX_wX_c ..) rfl rfl (ws' := (wX E h g q21.1)) (cut_wX_wX_w ..) (wX_0 ..) rfl k_351 k_353 k_0 k_68 k_354 (⟨rfl, rfl⟩) hdV_X11_fails ⟨Nat.le_of_ble_eq_true rfl, Nat.le_of_ble_eq_true rfl⟩ rfl (Nat.le_of_ble_eq_true rfl) rfl dX11_as_43 ?_
                obtain rfl := Option.some.inj hf
                exact j_iret X hr hlk rfl dX11_as_46 hQ
            · replace hf := (if_neg n_31_3).symm.trans hf
              by_cases n_31_4 : q4.2 = 19
              · replace hf := (if_pos n_31_4).symm.trans hf
                refine j_stk (st' := [.ref (h 71)]) (by rw [n_31_4]; rfl) ?_
                refine j_iload_n X dX11_as_34 rfl rfl ?_
                obtain ⟨q22, g_q22, hf⟩ := ob_t hf
                obtain ⟨μ23, e_μ23, hf⟩ := bd_e hf
                refine j_callSF X F [67, 68, 69, 70, 71, 72, 73] (c_X11_isOf_k4 tn tt E (fun j => h (List.getD [67, 68, 69, 70, 71, 72, 73] j 0)) (fun j => g (List.getD [] j 0)) g_q22) (cut_wX_wK_67_68_69_c ..) rfl rfl (ws' := (wX E h g μ23)) (by rw [e_μ23]; exact cut_wX_wK_67_68_69_w ..) k_447 k_448 k_68 k_449 (⟨rfl, rfl⟩) hdS_X11_isOf ⟨Nat.le_of_ble_eq_true rfl, Nat.le_of_ble_eq_true rfl⟩ rfl (Nat.le_of_ble_eq_true rfl) rfl dX11_as_35 ?_
                refine j_if_ne (tgt := 47) X dX11_as_38 (by decide) (fun c_38 => ?_) (fun c_38 => ?_)
                · replace hf := (if_neg c_38).symm.trans hf
                  refine j_aload_n X dX11_as_47 rfl rfl ?_
                  refine j_get (C := RX11) (T := TX11) (N := 10) X iX11 0 (wX_0 ..) rfl 0 (by decide) k_310 rfl rfl dX11_as_48 ?_
                  refine j_get (C := RX5) (T := TX5) (N := 8) X iX5 1 (wX_1 ..) rfl 2 (by decide) k_239 rfl rfl dX11_as_51 ?_
                  refine j_get (C := RX4) (T := TX4) (N := 10) X iX4 23 (wX_23 ..) rfl 1 (by decide) k_195 rfl rfl dX11_as_54 ?_
                  refine j_iload_n X dX11_as_57 rfl rfl ?_
                  obtain ⟨c24, hf⟩ := oi_in hf
                  refine j_iald X 25 (wX_25 ..) c24 dX11_as_58 ?_
                  obtain rfl := Option.some.inj hf
                  exact j_iret X hr hlk rfl dX11_as_59 hQ
                · replace hf := (if_pos c_38).symm.trans hf
                  refine j_aload_n X dX11_as_41 rfl rfl ?_
                  refine j_iconst (v := (5 : Int32)) X dX11_as_42 (by decide) ?_
                  obtain ⟨q25, g_q25, hf⟩ := ob_t hf
                  refine j_callV X [0, 1, 2, 3, 4, 5, 6, 7, 8, 9, 10, 11, 12, 13, 14, 15, 16, 17, 18, 19, 20, 21, 22, 23, 24, 25, 26, 27, 28, 29, 30, 31, 32, 33, 34, 35, 36, 37, 38, 39, 40, 41, 42, 43, 44, 45, 46, 47, 48, 49, 50, 51, 52, 53, 54, 55, 56, 57, 58, 59, 60, 61, 62, 63, 64, 65, 66, 67, 68, 69, 70, 71, 72, 73, 74, 75, 76, 77, 78, 79, 80, 81, 82, 83, 84] 0 (c_X11_fails E h g g_q25) (cut_wX_wX_c ..) rfl rfl (ws' := (wX E h g q25.1)) (cut_wX_wX_w ..) (wX_0 ..) rfl k_351 k_353 k_0 k_68 k_354 (⟨rfl, rfl⟩) hdV_X11_fails ⟨Nat.le_of_ble_eq_true rfl, Nat.le_of_ble_eq_true rfl⟩ rfl (Nat.le_of_ble_eq_true rfl) rfl dX11_as_43 ?_
                  obtain rfl := Option.some.inj hf
                  exact j_iret X hr hlk rfl dX11_as_46 hQ
              · replace hf := (if_neg n_31_4).symm.trans hf
                by_cases n_31_5 : q4.2 = 20
                · replace hf := (if_pos n_31_5).symm.trans hf
                  refine j_stk (st' := [.ref (h 72)]) (by rw [n_31_5]; rfl) ?_
                  refine j_iload_n X dX11_as_34 rfl rfl ?_
                  obtain ⟨q26, g_q26, hf⟩ := ob_t hf
                  obtain ⟨μ27, e_μ27, hf⟩ := bd_e hf
                  refine j_callSF X F [67, 68, 69, 70, 71, 72, 73] (c_X11_isOf_k5 tn tt E (fun j => h (List.getD [67, 68, 69, 70, 71, 72, 73] j 0)) (fun j => g (List.getD [] j 0)) g_q26) (cut_wX_wK_67_68_69_c ..) rfl rfl (ws' := (wX E h g μ27)) (by rw [e_μ27]; exact cut_wX_wK_67_68_69_w ..) k_447 k_448 k_68 k_449 (⟨rfl, rfl⟩) hdS_X11_isOf ⟨Nat.le_of_ble_eq_true rfl, Nat.le_of_ble_eq_true rfl⟩ rfl (Nat.le_of_ble_eq_true rfl) rfl dX11_as_35 ?_
                  refine j_if_ne (tgt := 47) X dX11_as_38 (by decide) (fun c_38 => ?_) (fun c_38 => ?_)
                  · replace hf := (if_neg c_38).symm.trans hf
                    refine j_aload_n X dX11_as_47 rfl rfl ?_
                    refine j_get (C := RX11) (T := TX11) (N := 10) X iX11 0 (wX_0 ..) rfl 0 (by decide) k_310 rfl rfl dX11_as_48 ?_
                    refine j_get (C := RX5) (T := TX5) (N := 8) X iX5 1 (wX_1 ..) rfl 2 (by decide) k_239 rfl rfl dX11_as_51 ?_
                    refine j_get (C := RX4) (T := TX4) (N := 10) X iX4 23 (wX_23 ..) rfl 1 (by decide) k_195 rfl rfl dX11_as_54 ?_
                    refine j_iload_n X dX11_as_57 rfl rfl ?_
                    obtain ⟨c28, hf⟩ := oi_in hf
                    refine j_iald X 25 (wX_25 ..) c28 dX11_as_58 ?_
                    obtain rfl := Option.some.inj hf
                    exact j_iret X hr hlk rfl dX11_as_59 hQ
                  · replace hf := (if_pos c_38).symm.trans hf
                    refine j_aload_n X dX11_as_41 rfl rfl ?_
                    refine j_iconst (v := (5 : Int32)) X dX11_as_42 (by decide) ?_
                    obtain ⟨q29, g_q29, hf⟩ := ob_t hf
                    refine j_callV X [0, 1, 2, 3, 4, 5, 6, 7, 8, 9, 10, 11, 12, 13, 14, 15, 16, 17, 18, 19, 20, 21, 22, 23, 24, 25, 26, 27, 28, 29, 30, 31, 32, 33, 34, 35, 36, 37, 38, 39, 40, 41, 42, 43, 44, 45, 46, 47, 48, 49, 50, 51, 52, 53, 54, 55, 56, 57, 58, 59, 60, 61, 62, 63, 64, 65, 66, 67, 68, 69, 70, 71, 72, 73, 74, 75, 76, 77, 78, 79, 80, 81, 82, 83, 84] 0 (c_X11_fails E h g g_q29) (cut_wX_wX_c ..) rfl rfl (ws' := (wX E h g q29.1)) (cut_wX_wX_w ..) (wX_0 ..) rfl k_351 k_353 k_0 k_68 k_354 (⟨rfl, rfl⟩) hdV_X11_fails ⟨Nat.le_of_ble_eq_true rfl, Nat.le_of_ble_eq_true rfl⟩ rfl (Nat.le_of_ble_eq_true rfl) rfl dX11_as_43 ?_
                    obtain rfl := Option.some.inj hf
                    exact j_iret X hr hlk rfl dX11_as_46 hQ
                · replace hf := (if_neg n_31_5).symm.trans hf
                  by_cases n_31_6 : q4.2 = 21
                  · replace hf := (if_pos n_31_6).symm.trans hf
                    refine j_stk (st' := [.ref (h 73)]) (by rw [n_31_6]; rfl) ?_
                    refine j_iload_n X dX11_as_34 rfl rfl ?_
                    obtain ⟨q30, g_q30, hf⟩ := ob_t hf
                    obtain ⟨μ31, e_μ31, hf⟩ := bd_e hf
                    refine j_callSF X F [67, 68, 69, 70, 71, 72, 73] (c_X11_isOf_k6 tn tt E (fun j => h (List.getD [67, 68, 69, 70, 71, 72, 73] j 0)) (fun j => g (List.getD [] j 0)) g_q30) (cut_wX_wK_67_68_69_c ..) rfl rfl (ws' := (wX E h g μ31)) (by rw [e_μ31]; exact cut_wX_wK_67_68_69_w ..) k_447 k_448 k_68 k_449 (⟨rfl, rfl⟩) hdS_X11_isOf ⟨Nat.le_of_ble_eq_true rfl, Nat.le_of_ble_eq_true rfl⟩ rfl (Nat.le_of_ble_eq_true rfl) rfl dX11_as_35 ?_
                    refine j_if_ne (tgt := 47) X dX11_as_38 (by decide) (fun c_38 => ?_) (fun c_38 => ?_)
                    · replace hf := (if_neg c_38).symm.trans hf
                      refine j_aload_n X dX11_as_47 rfl rfl ?_
                      refine j_get (C := RX11) (T := TX11) (N := 10) X iX11 0 (wX_0 ..) rfl 0 (by decide) k_310 rfl rfl dX11_as_48 ?_
                      refine j_get (C := RX5) (T := TX5) (N := 8) X iX5 1 (wX_1 ..) rfl 2 (by decide) k_239 rfl rfl dX11_as_51 ?_
                      refine j_get (C := RX4) (T := TX4) (N := 10) X iX4 23 (wX_23 ..) rfl 1 (by decide) k_195 rfl rfl dX11_as_54 ?_
                      refine j_iload_n X dX11_as_57 rfl rfl ?_
                      obtain ⟨c32, hf⟩ := oi_in hf
                      refine j_iald X 25 (wX_25 ..) c32 dX11_as_58 ?_
                      obtain rfl := Option.some.inj hf
                      exact j_iret X hr hlk rfl dX11_as_59 hQ
                    · replace hf := (if_pos c_38).symm.trans hf
                      refine j_aload_n X dX11_as_41 rfl rfl ?_
                      refine j_iconst (v := (5 : Int32)) X dX11_as_42 (by decide) ?_
                      obtain ⟨q33, g_q33, hf⟩ := ob_t hf
                      refine j_callV X [0, 1, 2, 3, 4, 5, 6, 7, 8, 9, 10, 11, 12, 13, 14, 15, 16, 17, 18, 19, 20, 21, 22, 23, 24, 25, 26, 27, 28, 29, 30, 31, 32, 33, 34, 35, 36, 37, 38, 39, 40, 41, 42, 43, 44, 45, 46, 47, 48, 49, 50, 51, 52, 53, 54, 55, 56, 57, 58, 59, 60, 61, 62, 63, 64, 65, 66, 67, 68, 69, 70, 71, 72, 73, 74, 75, 76, 77, 78, 79, 80, 81, 82, 83, 84] 0 (c_X11_fails E h g g_q33) (cut_wX_wX_c ..) rfl rfl (ws' := (wX E h g q33.1)) (cut_wX_wX_w ..) (wX_0 ..) rfl k_351 k_353 k_0 k_68 k_354 (⟨rfl, rfl⟩) hdV_X11_fails ⟨Nat.le_of_ble_eq_true rfl, Nat.le_of_ble_eq_true rfl⟩ rfl (Nat.le_of_ble_eq_true rfl) rfl dX11_as_43 ?_
                      obtain rfl := Option.some.inj hf
                      exact j_iret X hr hlk rfl dX11_as_46 hQ
                  · replace hf := (if_neg n_31_6).symm.trans hf
                    cases hf
    · replace hf := (if_pos c_14).symm.trans hf
      refine j_aload_n X dX11_as_17 rfl rfl ?_
      refine j_iconst (v := (1 : Int32)) X dX11_as_18 (by decide) ?_
      obtain ⟨q34, g_q34, hf⟩ := ob_t hf
      refine j_callV X [0, 1, 2, 3, 4, 5, 6, 7, 8, 9, 10, 11, 12, 13, 14, 15, 16, 17, 18, 19, 20, 21, 22, 23, 24, 25, 26, 27, 28, 29, 30, 31, 32, 33, 34, 35, 36, 37, 38, 39, 40, 41, 42, 43, 44, 45, 46, 47, 48, 49, 50, 51, 52, 53, 54, 55, 56, 57, 58, 59, 60, 61, 62, 63, 64, 65, 66, 67, 68, 69, 70, 71, 72, 73, 74, 75, 76, 77, 78, 79, 80, 81, 82, 83, 84] 0 (c_X11_fails E h g g_q34) (cut_wX_wX_c ..) rfl rfl (ws' := (wX E h g q34.1)) (cut_wX_wX_w ..) (wX_0 ..) rfl k_351 k_353 k_0 k_68 k_354 (⟨rfl, rfl⟩) hdV_X11_fails ⟨Nat.le_of_ble_eq_true rfl, Nat.le_of_ble_eq_true rfl⟩ rfl (Nat.le_of_ble_eq_true rfl) rfl dX11_as_19 ?_
      obtain rfl := Option.some.inj hf
      exact j_iret X hr hlk rfl dX11_as_22 hQ
def f_X11_patience (μ : Mem) (x1 : Int32) (x2 : Int32) : Option (Mem × Int32) := (f_X11_isStander x1).bind fun q1 => ((if q1 = 0 then (f_X11_fails μ (1 : Int32)).bind fun q2 => (some (q2.1, q2.2)) else (f_X11_within x2 (0 : Int32) (999 : Int32)).bind fun q3 => ((if q3 = 0 then (f_X11_fails μ (1 : Int32)).bind fun q13 => (some (q13.1, q13.2)) else (f_X4_stands (sub [23, 24, 25, 26, 27, 28, 7, 8, 9, 10, 11, 12, 13, 14, 66, 67, 68, 69, 70, 71, 72, 73] μ) x1).bind fun q4 => (bd (put [23, 24, 25, 26, 27, 28, 7, 8, 9, 10, 11, 12, 13, 14, 66, 67, 68, 69, 70, 71, 72, 73] μ q4.1) fun μ5 => ((if q4.2 = 0 then (f_X11_fails μ5 (3 : Int32)).bind fun q12 => (some (q12.1, q12.2)) else (if inb x1 9 = true then bd (μ5 27 x1.toNatClampNeg) fun y7 => ((if inb x1 9 = true then bd (upA μ5 27 (upd (μ5 27) x1.toNatClampNeg x2)) fun μ9 => ((f_X4_settle (sub [23, 24, 25, 26, 27, 28, 7, 8, 9, 10, 11, 12, 13, 14, 66, 67, 68, 69, 70, 71, 72, 73] μ9)).bind fun q10 => (bd (put [23, 24, 25, 26, 27, 28, 7, 8, 9, 10, 11, 12, 13, 14, 66, 67, 68, 69, 70, 71, 72, 73] μ9 q10.1) fun μ11 => (some (μ11, y7)))) else none)) else none))))))))
set_option maxHeartbeats 4000000 in
set_option maxRecDepth 20000 in
theorem c_X11_patience (E : Ev) (h : Nat → Nat) (g : Nat → Option Nat) {μ : Mem} {x1 : Int32} {x2 : Int32} {r : (Mem × Int32)} (hf : f_X11_patience μ x1 x2 = some r) : Ct E yX11_patience cX11_patience 4 (some .int) (rmOf 4 93) (wX E h g μ) (wX E h g r.1) [.ref (h 0), .int x1, .int x2] (some (.int r.2)) := by
  refine ct_start RX11 1 (by decide) rfl (Nat.le_of_ble_eq_true rfl) ?_
  intro p l e s m args below meth c A Q X hr hlk hQ
  rw [f_X11_patience] at hf
  refine j_iload_n X dX11_patience_0 rfl rfl ?_
  obtain ⟨q1, g_q1, hf⟩ := ob_t hf
  refine j_callS X [] (c_X11_isStander E g_q1) rfl rfl rfl (ws' := (wX E h g μ)) rfl k_345 k_346 k_68 k_347 (⟨rfl, rfl⟩) hdS_X11_isStander ⟨Nat.le_of_ble_eq_true rfl, Nat.le_of_ble_eq_true rfl⟩ rfl (Nat.le_of_ble_eq_true rfl) rfl dX11_patience_1 ?_
  refine j_if_eq (tgt := 18) X dX11_patience_4 (by decide) (fun c_4 => ?_) (fun c_4 => ?_)
  · replace hf := (if_pos c_4).symm.trans hf
    refine j_aload_n X dX11_patience_18 rfl rfl ?_
    refine j_iconst (v := (1 : Int32)) X dX11_patience_19 (by decide) ?_
    obtain ⟨q2, g_q2, hf⟩ := ob_t hf
    refine j_callV X [0, 1, 2, 3, 4, 5, 6, 7, 8, 9, 10, 11, 12, 13, 14, 15, 16, 17, 18, 19, 20, 21, 22, 23, 24, 25, 26, 27, 28, 29, 30, 31, 32, 33, 34, 35, 36, 37, 38, 39, 40, 41, 42, 43, 44, 45, 46, 47, 48, 49, 50, 51, 52, 53, 54, 55, 56, 57, 58, 59, 60, 61, 62, 63, 64, 65, 66, 67, 68, 69, 70, 71, 72, 73, 74, 75, 76, 77, 78, 79, 80, 81, 82, 83, 84] 0 (c_X11_fails E h g g_q2) (cut_wX_wX_c ..) rfl rfl (ws' := (wX E h g q2.1)) (cut_wX_wX_w ..) (wX_0 ..) rfl k_351 k_353 k_0 k_68 k_354 (⟨rfl, rfl⟩) hdV_X11_fails ⟨Nat.le_of_ble_eq_true rfl, Nat.le_of_ble_eq_true rfl⟩ rfl (Nat.le_of_ble_eq_true rfl) rfl dX11_patience_20 ?_
    obtain rfl := Option.some.inj hf
    exact j_iret X hr hlk rfl dX11_patience_23 hQ
  · replace hf := (if_neg c_4).symm.trans hf
    refine j_iload_n X dX11_patience_7 rfl rfl ?_
    refine j_iconst (v := (0 : Int32)) X dX11_patience_8 (by decide) ?_
    refine j_sipush (v := (999 : Int32)) X dX11_patience_9 (by decide) ?_
    obtain ⟨q3, g_q3, hf⟩ := ob_t hf
    refine j_callS X [] (c_X11_within E g_q3) rfl rfl rfl (ws' := (wX E h g μ)) rfl k_348 k_349 k_68 k_350 (⟨rfl, rfl⟩) hdS_X11_within ⟨Nat.le_of_ble_eq_true rfl, Nat.le_of_ble_eq_true rfl⟩ rfl (Nat.le_of_ble_eq_true rfl) rfl dX11_patience_12 ?_
    refine j_if_ne (tgt := 24) X dX11_patience_15 (by decide) (fun c_15 => ?_) (fun c_15 => ?_)
    · replace hf := (if_neg c_15).symm.trans hf
      refine j_aload_n X dX11_patience_24 rfl rfl ?_
      refine j_get (C := RX11) (T := TX11) (N := 10) X iX11 0 (wX_0 ..) rfl 0 (by decide) k_310 rfl rfl dX11_patience_25 ?_
      refine j_get (C := RX5) (T := TX5) (N := 8) X iX5 1 (wX_1 ..) rfl 2 (by decide) k_239 rfl rfl dX11_patience_28 ?_
      refine j_iload_n X dX11_patience_31 rfl rfl ?_
      obtain ⟨q4, g_q4, hf⟩ := ob_t hf
      obtain ⟨μ5, e_μ5, hf⟩ := bd_e hf
      refine j_callV X [23, 24, 25, 26, 27, 28, 7, 8, 9, 10, 11, 12, 13, 14, 66, 67, 68, 69, 70, 71, 72, 73] 0 (c_X4_stands E (fun j => h (List.getD [23, 24, 25, 26, 27, 28, 7, 8, 9, 10, 11, 12, 13, 14, 66, 67, 68, 69, 70, 71, 72, 73] j 0)) (fun j => g (List.getD [0, 1] j 0)) g_q4) (cut_wX_wR_23_24_25_c ..) rfl rfl (ws' := (wX E h g μ5)) (by rw [e_μ5]; exact cut_wX_wR_23_24_25_w ..) (wR_0 ..) rfl k_454 k_455 k_456 k_78 k_457 (⟨rfl, rfl⟩) hdV_X4_stands ⟨Nat.le_of_ble_eq_true rfl, Nat.le_of_ble_eq_true rfl⟩ rfl (Nat.le_of_ble_eq_true rfl) rfl dX11_patience_32 ?_
      refine j_if_ne (tgt := 44) X dX11_patience_35 (by decide) (fun c_35 => ?_) (fun c_35 => ?_)
      · replace hf := (if_neg c_35).symm.trans hf
        refine j_aload_n X dX11_patience_44 rfl rfl ?_
        refine j_get (C := RX11) (T := TX11) (N := 10) X iX11 0 (wX_0 ..) rfl 0 (by decide) k_310 rfl rfl dX11_patience_45 ?_
        refine j_get (C := RX5) (T := TX5) (N := 8) X iX5 1 (wX_1 ..) rfl 2 (by decide) k_239 rfl rfl dX11_patience_48 ?_
        refine j_get (C := RX4) (T := TX4) (N := 10) X iX4 23 (wX_23 ..) rfl 3 (by decide) k_200 rfl rfl dX11_patience_51 ?_
        refine j_iload_n X dX11_patience_54 rfl rfl ?_
        obtain ⟨c6, hf⟩ := oi_in hf
        refine j_iald X 27 (wX_27 ..) c6 dX11_patience_55 ?_
        obtain ⟨y7, e_y7, hf⟩ := bd_e hf
        refine j_top e_y7 ?_
        refine j_istore_n3 X dX11_patience_56 rfl (by decide) rfl ?_
        refine j_aload_n X dX11_patience_57 rfl rfl ?_
        refine j_get (C := RX11) (T := TX11) (N := 10) X iX11 0 (wX_0 ..) rfl 0 (by decide) k_310 rfl rfl dX11_patience_58 ?_
        refine j_get (C := RX5) (T := TX5) (N := 8) X iX5 1 (wX_1 ..) rfl 2 (by decide) k_239 rfl rfl dX11_patience_61 ?_
        refine j_get (C := RX4) (T := TX4) (N := 10) X iX4 23 (wX_23 ..) rfl 3 (by decide) k_200 rfl rfl dX11_patience_64 ?_
        refine j_iload_n X dX11_patience_67 rfl rfl ?_
        refine j_iload_n X dX11_patience_68 rfl rfl ?_
        obtain ⟨c8, hf⟩ := oi_in hf
        obtain ⟨μ9, e_μ9, hf⟩ := bd_e hf
        refine j_iast X 27 (wX_27 ..) c8 dX11_patience_69 (ws' := (wX E h g μ9)) (by rw [e_μ9]; exact wX_s27 ..) ?_
        refine j_aload_n X dX11_patience_70 rfl rfl ?_
        refine j_get (C := RX11) (T := TX11) (N := 10) X iX11 0 (wX_0 ..) rfl 0 (by decide) k_310 rfl rfl dX11_patience_71 ?_
        refine j_get (C := RX5) (T := TX5) (N := 8) X iX5 1 (wX_1 ..) rfl 2 (by decide) k_239 rfl rfl dX11_patience_74 ?_
        obtain ⟨q10, g_q10, hf⟩ := ob_t hf
        obtain ⟨μ11, e_μ11, hf⟩ := bd_e hf
        refine j_callV X [23, 24, 25, 26, 27, 28, 7, 8, 9, 10, 11, 12, 13, 14, 66, 67, 68, 69, 70, 71, 72, 73] 0 (c_X4_settle E (fun j => h (List.getD [23, 24, 25, 26, 27, 28, 7, 8, 9, 10, 11, 12, 13, 14, 66, 67, 68, 69, 70, 71, 72, 73] j 0)) (fun j => g (List.getD [0, 1] j 0)) g_q10) (cut_wX_wR_23_24_25_c ..) rfl rfl (ws' := (wX E h g μ11)) (by rw [e_μ11]; exact cut_wX_wR_23_24_25_w ..) (wR_0 ..) rfl k_458 k_459 k_460 k_78 k_461 (⟨rfl, rfl⟩) hdV_X4_settle ⟨Nat.le_of_ble_eq_true rfl, Nat.le_of_ble_eq_true rfl⟩ rfl (Nat.le_of_ble_eq_true rfl) rfl dX11_patience_77 ?_
        refine j_pop X dX11_patience_80 rfl ?_
        refine j_iload_n X dX11_patience_81 rfl rfl ?_
        obtain rfl := Option.some.inj hf
        exact j_iret X hr hlk rfl dX11_patience_82 hQ
      · replace hf := (if_pos c_35).symm.trans hf
        refine j_aload_n X dX11_patience_38 rfl rfl ?_
        refine j_iconst (v := (3 : Int32)) X dX11_patience_39 (by decide) ?_
        obtain ⟨q12, g_q12, hf⟩ := ob_t hf
        refine j_callV X [0, 1, 2, 3, 4, 5, 6, 7, 8, 9, 10, 11, 12, 13, 14, 15, 16, 17, 18, 19, 20, 21, 22, 23, 24, 25, 26, 27, 28, 29, 30, 31, 32, 33, 34, 35, 36, 37, 38, 39, 40, 41, 42, 43, 44, 45, 46, 47, 48, 49, 50, 51, 52, 53, 54, 55, 56, 57, 58, 59, 60, 61, 62, 63, 64, 65, 66, 67, 68, 69, 70, 71, 72, 73, 74, 75, 76, 77, 78, 79, 80, 81, 82, 83, 84] 0 (c_X11_fails E h g g_q12) (cut_wX_wX_c ..) rfl rfl (ws' := (wX E h g q12.1)) (cut_wX_wX_w ..) (wX_0 ..) rfl k_351 k_353 k_0 k_68 k_354 (⟨rfl, rfl⟩) hdV_X11_fails ⟨Nat.le_of_ble_eq_true rfl, Nat.le_of_ble_eq_true rfl⟩ rfl (Nat.le_of_ble_eq_true rfl) rfl dX11_patience_40 ?_
        obtain rfl := Option.some.inj hf
        exact j_iret X hr hlk rfl dX11_patience_43 hQ
    · replace hf := (if_pos c_15).symm.trans hf
      refine j_aload_n X dX11_patience_18 rfl rfl ?_
      refine j_iconst (v := (1 : Int32)) X dX11_patience_19 (by decide) ?_
      obtain ⟨q13, g_q13, hf⟩ := ob_t hf
      refine j_callV X [0, 1, 2, 3, 4, 5, 6, 7, 8, 9, 10, 11, 12, 13, 14, 15, 16, 17, 18, 19, 20, 21, 22, 23, 24, 25, 26, 27, 28, 29, 30, 31, 32, 33, 34, 35, 36, 37, 38, 39, 40, 41, 42, 43, 44, 45, 46, 47, 48, 49, 50, 51, 52, 53, 54, 55, 56, 57, 58, 59, 60, 61, 62, 63, 64, 65, 66, 67, 68, 69, 70, 71, 72, 73, 74, 75, 76, 77, 78, 79, 80, 81, 82, 83, 84] 0 (c_X11_fails E h g g_q13) (cut_wX_wX_c ..) rfl rfl (ws' := (wX E h g q13.1)) (cut_wX_wX_w ..) (wX_0 ..) rfl k_351 k_353 k_0 k_68 k_354 (⟨rfl, rfl⟩) hdV_X11_fails ⟨Nat.le_of_ble_eq_true rfl, Nat.le_of_ble_eq_true rfl⟩ rfl (Nat.le_of_ble_eq_true rfl) rfl dX11_patience_20 ?_
      obtain rfl := Option.some.inj hf
      exact j_iret X hr hlk rfl dX11_patience_23 hQ
def f_X11_swap (μ : Mem) (x1 : Int32) (x2 : Int32) : Option (Mem × Int32) := (f_X11_isStander x1).bind fun q1 => ((if q1 = 0 then (f_X11_fails μ (1 : Int32)).bind fun q2 => (some (q2.1, q2.2)) else (f_X11_isStander x2).bind fun q3 => ((if q3 = 0 then (f_X11_fails μ (1 : Int32)).bind fun q13 => (some (q13.1, q13.2)) else (f_X4_stands (sub [23, 24, 25, 26, 27, 28, 7, 8, 9, 10, 11, 12, 13, 14, 66, 67, 68, 69, 70, 71, 72, 73] μ) x1).bind fun q4 => (bd (put [23, 24, 25, 26, 27, 28, 7, 8, 9, 10, 11, 12, 13, 14, 66, 67, 68, 69, 70, 71, 72, 73] μ q4.1) fun μ5 => ((if q4.2 = 0 then (f_X11_fails μ5 (3 : Int32)).bind fun q6 => (some (q6.1, q6.2)) else (f_X4_stands (sub [23, 24, 25, 26, 27, 28, 7, 8, 9, 10, 11, 12, 13, 14, 66, 67, 68, 69, 70, 71, 72, 73] μ5) x2).bind fun q7 => (bd (put [23, 24, 25, 26, 27, 28, 7, 8, 9, 10, 11, 12, 13, 14, 66, 67, 68, 69, 70, 71, 72, 73] μ5 q7.1) fun μ8 => ((if q7.2 = 0 then (f_X11_fails μ8 (3 : Int32)).bind fun q12 => (some (q12.1, q12.2)) else (f_X4_changePosts (sub [23, 24, 25, 26, 27, 28, 7, 8, 9, 10, 11, 12, 13, 14, 66, 67, 68, 69, 70, 71, 72, 73] μ8) x1 x2).bind fun q9 => (bd (put [23, 24, 25, 26, 27, 28, 7, 8, 9, 10, 11, 12, 13, 14, 66, 67, 68, 69, 70, 71, 72, 73] μ8 q9) fun μ10 => ((if inb x1 9 = true then some (μ10, (μ10 26 x1.toNatClampNeg)) else none)))))))))))))
set_option maxHeartbeats 4000000 in
set_option maxRecDepth 20000 in
theorem c_X11_swap (E : Ev) (h : Nat → Nat) (g : Nat → Option Nat) {μ : Mem} {x1 : Int32} {x2 : Int32} {r : (Mem × Int32)} (hf : f_X11_swap μ x1 x2 = some r) : Ct E yX11_swap cX11_swap 3 (some .int) (rmOf 2 42) (wX E h g μ) (wX E h g r.1) [.ref (h 0), .int x1, .int x2] (some (.int r.2)) := by
  refine ct_start RX11 0 (by decide) rfl (Nat.le_of_ble_eq_true rfl) ?_
  intro p l e s m args below meth c A Q X hr hlk hQ
  rw [f_X11_swap] at hf
  refine j_iload_n X dX11_swap_0 rfl rfl ?_
  obtain ⟨q1, g_q1, hf⟩ := ob_t hf
  refine j_callS X [] (c_X11_isStander E g_q1) rfl rfl rfl (ws' := (wX E h g μ)) rfl k_345 k_346 k_68 k_347 (⟨rfl, rfl⟩) hdS_X11_isStander ⟨Nat.le_of_ble_eq_true rfl, Nat.le_of_ble_eq_true rfl⟩ rfl (Nat.le_of_ble_eq_true rfl) rfl dX11_swap_1 ?_
  refine j_if_eq (tgt := 14) X dX11_swap_4 (by decide) (fun c_4 => ?_) (fun c_4 => ?_)
  · replace hf := (if_pos c_4).symm.trans hf
    refine j_aload_n X dX11_swap_14 rfl rfl ?_
    refine j_iconst (v := (1 : Int32)) X dX11_swap_15 (by decide) ?_
    obtain ⟨q2, g_q2, hf⟩ := ob_t hf
    refine j_callV X [0, 1, 2, 3, 4, 5, 6, 7, 8, 9, 10, 11, 12, 13, 14, 15, 16, 17, 18, 19, 20, 21, 22, 23, 24, 25, 26, 27, 28, 29, 30, 31, 32, 33, 34, 35, 36, 37, 38, 39, 40, 41, 42, 43, 44, 45, 46, 47, 48, 49, 50, 51, 52, 53, 54, 55, 56, 57, 58, 59, 60, 61, 62, 63, 64, 65, 66, 67, 68, 69, 70, 71, 72, 73, 74, 75, 76, 77, 78, 79, 80, 81, 82, 83, 84] 0 (c_X11_fails E h g g_q2) (cut_wX_wX_c ..) rfl rfl (ws' := (wX E h g q2.1)) (cut_wX_wX_w ..) (wX_0 ..) rfl k_351 k_353 k_0 k_68 k_354 (⟨rfl, rfl⟩) hdV_X11_fails ⟨Nat.le_of_ble_eq_true rfl, Nat.le_of_ble_eq_true rfl⟩ rfl (Nat.le_of_ble_eq_true rfl) rfl dX11_swap_16 ?_
    obtain rfl := Option.some.inj hf
    exact j_iret X hr hlk rfl dX11_swap_19 hQ
  · replace hf := (if_neg c_4).symm.trans hf
    refine j_iload_n X dX11_swap_7 rfl rfl ?_
    obtain ⟨q3, g_q3, hf⟩ := ob_t hf
    refine j_callS X [] (c_X11_isStander E g_q3) rfl rfl rfl (ws' := (wX E h g μ)) rfl k_345 k_346 k_68 k_347 (⟨rfl, rfl⟩) hdS_X11_isStander ⟨Nat.le_of_ble_eq_true rfl, Nat.le_of_ble_eq_true rfl⟩ rfl (Nat.le_of_ble_eq_true rfl) rfl dX11_swap_8 ?_
    refine j_if_ne (tgt := 20) X dX11_swap_11 (by decide) (fun c_11 => ?_) (fun c_11 => ?_)
    · replace hf := (if_neg c_11).symm.trans hf
      refine j_aload_n X dX11_swap_20 rfl rfl ?_
      refine j_get (C := RX11) (T := TX11) (N := 10) X iX11 0 (wX_0 ..) rfl 0 (by decide) k_310 rfl rfl dX11_swap_21 ?_
      refine j_get (C := RX5) (T := TX5) (N := 8) X iX5 1 (wX_1 ..) rfl 2 (by decide) k_239 rfl rfl dX11_swap_24 ?_
      refine j_iload_n X dX11_swap_27 rfl rfl ?_
      obtain ⟨q4, g_q4, hf⟩ := ob_t hf
      obtain ⟨μ5, e_μ5, hf⟩ := bd_e hf
      refine j_callV X [23, 24, 25, 26, 27, 28, 7, 8, 9, 10, 11, 12, 13, 14, 66, 67, 68, 69, 70, 71, 72, 73] 0 (c_X4_stands E (fun j => h (List.getD [23, 24, 25, 26, 27, 28, 7, 8, 9, 10, 11, 12, 13, 14, 66, 67, 68, 69, 70, 71, 72, 73] j 0)) (fun j => g (List.getD [0, 1] j 0)) g_q4) (cut_wX_wR_23_24_25_c ..) rfl rfl (ws' := (wX E h g μ5)) (by rw [e_μ5]; exact cut_wX_wR_23_24_25_w ..) (wR_0 ..) rfl k_454 k_455 k_456 k_78 k_457 (⟨rfl, rfl⟩) hdV_X4_stands ⟨Nat.le_of_ble_eq_true rfl, Nat.le_of_ble_eq_true rfl⟩ rfl (Nat.le_of_ble_eq_true rfl) rfl dX11_swap_28 ?_
      refine j_if_eq (tgt := 48) X dX11_swap_31 (by decide) (fun c_31 => ?_) (fun c_31 => ?_)
      · replace hf := (if_pos c_31).symm.trans hf
        refine j_aload_n X dX11_swap_48 rfl rfl ?_
        refine j_iconst (v := (3 : Int32)) X dX11_swap_49 (by decide) ?_
        obtain ⟨q6, g_q6, hf⟩ := ob_t hf
        refine j_callV X [0, 1, 2, 3, 4, 5, 6, 7, 8, 9, 10, 11, 12, 13, 14, 15, 16, 17, 18, 19, 20, 21, 22, 23, 24, 25, 26, 27, 28, 29, 30, 31, 32, 33, 34, 35, 36, 37, 38, 39, 40, 41, 42, 43, 44, 45, 46, 47, 48, 49, 50, 51, 52, 53, 54, 55, 56, 57, 58, 59, 60, 61, 62, 63, 64, 65, 66, 67, 68, 69, 70, 71, 72, 73, 74, 75, 76, 77, 78, 79, 80, 81, 82, 83, 84] 0 (c_X11_fails E h g g_q6) (cut_wX_wX_c ..) rfl rfl (ws' := (wX E h g q6.1)) (cut_wX_wX_w ..) (wX_0 ..) rfl k_351 k_353 k_0 k_68 k_354 (⟨rfl, rfl⟩) hdV_X11_fails ⟨Nat.le_of_ble_eq_true rfl, Nat.le_of_ble_eq_true rfl⟩ rfl (Nat.le_of_ble_eq_true rfl) rfl dX11_swap_50 ?_
        obtain rfl := Option.some.inj hf
        exact j_iret X hr hlk rfl dX11_swap_53 hQ
      · replace hf := (if_neg c_31).symm.trans hf
        refine j_aload_n X dX11_swap_34 rfl rfl ?_
        refine j_get (C := RX11) (T := TX11) (N := 10) X iX11 0 (wX_0 ..) rfl 0 (by decide) k_310 rfl rfl dX11_swap_35 ?_
        refine j_get (C := RX5) (T := TX5) (N := 8) X iX5 1 (wX_1 ..) rfl 2 (by decide) k_239 rfl rfl dX11_swap_38 ?_
        refine j_iload_n X dX11_swap_41 rfl rfl ?_
        obtain ⟨q7, g_q7, hf⟩ := ob_t hf
        obtain ⟨μ8, e_μ8, hf⟩ := bd_e hf
        refine j_callV X [23, 24, 25, 26, 27, 28, 7, 8, 9, 10, 11, 12, 13, 14, 66, 67, 68, 69, 70, 71, 72, 73] 0 (c_X4_stands E (fun j => h (List.getD [23, 24, 25, 26, 27, 28, 7, 8, 9, 10, 11, 12, 13, 14, 66, 67, 68, 69, 70, 71, 72, 73] j 0)) (fun j => g (List.getD [0, 1] j 0)) g_q7) (cut_wX_wR_23_24_25_c ..) rfl rfl (ws' := (wX E h g μ8)) (by rw [e_μ8]; exact cut_wX_wR_23_24_25_w ..) (wR_0 ..) rfl k_454 k_455 k_456 k_78 k_457 (⟨rfl, rfl⟩) hdV_X4_stands ⟨Nat.le_of_ble_eq_true rfl, Nat.le_of_ble_eq_true rfl⟩ rfl (Nat.le_of_ble_eq_true rfl) rfl dX11_swap_42 ?_
        refine j_if_ne (tgt := 54) X dX11_swap_45 (by decide) (fun c_45 => ?_) (fun c_45 => ?_)
        · replace hf := (if_neg c_45).symm.trans hf
          refine j_aload_n X dX11_swap_54 rfl rfl ?_
          refine j_get (C := RX11) (T := TX11) (N := 10) X iX11 0 (wX_0 ..) rfl 0 (by decide) k_310 rfl rfl dX11_swap_55 ?_
          refine j_get (C := RX5) (T := TX5) (N := 8) X iX5 1 (wX_1 ..) rfl 2 (by decide) k_239 rfl rfl dX11_swap_58 ?_
          refine j_iload_n X dX11_swap_61 rfl rfl ?_
          refine j_iload_n X dX11_swap_62 rfl rfl ?_
          obtain ⟨q9, g_q9, hf⟩ := ob_t hf
          obtain ⟨μ10, e_μ10, hf⟩ := bd_e hf
          refine j_callV X [23, 24, 25, 26, 27, 28, 7, 8, 9, 10, 11, 12, 13, 14, 66, 67, 68, 69, 70, 71, 72, 73] 0 (c_X4_changePosts E (fun j => h (List.getD [23, 24, 25, 26, 27, 28, 7, 8, 9, 10, 11, 12, 13, 14, 66, 67, 68, 69, 70, 71, 72, 73] j 0)) (fun j => g (List.getD [0, 1] j 0)) g_q9) (cut_wX_wR_23_24_25_c ..) rfl rfl (ws' := (wX E h g μ10)) (by rw [e_μ10]; exact cut_wX_wR_23_24_25_w ..) (wR_0 ..) rfl k_484 k_485 k_486 k_78 k_487 (⟨rfl, rfl⟩) hdV_X4_changePosts ⟨Nat.le_of_ble_eq_true rfl, Nat.le_of_ble_eq_true rfl⟩ rfl (Nat.le_of_ble_eq_true rfl) rfl dX11_swap_63 ?_
          refine j_aload_n X dX11_swap_66 rfl rfl ?_
          refine j_get (C := RX11) (T := TX11) (N := 10) X iX11 0 (wX_0 ..) rfl 0 (by decide) k_310 rfl rfl dX11_swap_67 ?_
          refine j_get (C := RX5) (T := TX5) (N := 8) X iX5 1 (wX_1 ..) rfl 2 (by decide) k_239 rfl rfl dX11_swap_70 ?_
          refine j_get (C := RX4) (T := TX4) (N := 10) X iX4 23 (wX_23 ..) rfl 2 (by decide) k_197 rfl rfl dX11_swap_73 ?_
          refine j_iload_n X dX11_swap_76 rfl rfl ?_
          obtain ⟨c11, hf⟩ := oi_in hf
          refine j_iald X 26 (wX_26 ..) c11 dX11_swap_77 ?_
          obtain rfl := Option.some.inj hf
          exact j_iret X hr hlk rfl dX11_swap_78 hQ
        · replace hf := (if_pos c_45).symm.trans hf
          refine j_aload_n X dX11_swap_48 rfl rfl ?_
          refine j_iconst (v := (3 : Int32)) X dX11_swap_49 (by decide) ?_
          obtain ⟨q12, g_q12, hf⟩ := ob_t hf
          refine j_callV X [0, 1, 2, 3, 4, 5, 6, 7, 8, 9, 10, 11, 12, 13, 14, 15, 16, 17, 18, 19, 20, 21, 22, 23, 24, 25, 26, 27, 28, 29, 30, 31, 32, 33, 34, 35, 36, 37, 38, 39, 40, 41, 42, 43, 44, 45, 46, 47, 48, 49, 50, 51, 52, 53, 54, 55, 56, 57, 58, 59, 60, 61, 62, 63, 64, 65, 66, 67, 68, 69, 70, 71, 72, 73, 74, 75, 76, 77, 78, 79, 80, 81, 82, 83, 84] 0 (c_X11_fails E h g g_q12) (cut_wX_wX_c ..) rfl rfl (ws' := (wX E h g q12.1)) (cut_wX_wX_w ..) (wX_0 ..) rfl k_351 k_353 k_0 k_68 k_354 (⟨rfl, rfl⟩) hdV_X11_fails ⟨Nat.le_of_ble_eq_true rfl, Nat.le_of_ble_eq_true rfl⟩ rfl (Nat.le_of_ble_eq_true rfl) rfl dX11_swap_50 ?_
          obtain rfl := Option.some.inj hf
          exact j_iret X hr hlk rfl dX11_swap_53 hQ
    · replace hf := (if_pos c_11).symm.trans hf
      refine j_aload_n X dX11_swap_14 rfl rfl ?_
      refine j_iconst (v := (1 : Int32)) X dX11_swap_15 (by decide) ?_
      obtain ⟨q13, g_q13, hf⟩ := ob_t hf
      refine j_callV X [0, 1, 2, 3, 4, 5, 6, 7, 8, 9, 10, 11, 12, 13, 14, 15, 16, 17, 18, 19, 20, 21, 22, 23, 24, 25, 26, 27, 28, 29, 30, 31, 32, 33, 34, 35, 36, 37, 38, 39, 40, 41, 42, 43, 44, 45, 46, 47, 48, 49, 50, 51, 52, 53, 54, 55, 56, 57, 58, 59, 60, 61, 62, 63, 64, 65, 66, 67, 68, 69, 70, 71, 72, 73, 74, 75, 76, 77, 78, 79, 80, 81, 82, 83, 84] 0 (c_X11_fails E h g g_q13) (cut_wX_wX_c ..) rfl rfl (ws' := (wX E h g q13.1)) (cut_wX_wX_w ..) (wX_0 ..) rfl k_351 k_353 k_0 k_68 k_354 (⟨rfl, rfl⟩) hdV_X11_fails ⟨Nat.le_of_ble_eq_true rfl, Nat.le_of_ble_eq_true rfl⟩ rfl (Nat.le_of_ble_eq_true rfl) rfl dX11_swap_16 ?_
      obtain rfl := Option.some.inj hf
      exact j_iret X hr hlk rfl dX11_swap_19 hQ
def f_X11_again (μ : Mem) (x1 : Int32) (x2 : Int32) : Option (Mem × Int32) := (f_X11_isStander x1).bind fun q1 => ((if q1 = 0 then (f_X11_fails μ (1 : Int32)).bind fun q2 => (some (q2.1, q2.2)) else (f_X11_within x2 (1 : Int32) (999 : Int32)).bind fun q3 => ((if q3 = 0 then (f_X11_fails μ (1 : Int32)).bind fun q11 => (some (q11.1, q11.2)) else (f_X4_stands (sub [23, 24, 25, 26, 27, 28, 7, 8, 9, 10, 11, 12, 13, 14, 66, 67, 68, 69, 70, 71, 72, 73] μ) x1).bind fun q4 => (bd (put [23, 24, 25, 26, 27, 28, 7, 8, 9, 10, 11, 12, 13, 14, 66, 67, 68, 69, 70, 71, 72, 73] μ q4.1) fun μ5 => ((if q4.2 = 0 then (if inb x1 9 = true then bd (upA μ5 28 (upd (μ5 28) x1.toNatClampNeg (-1 : Int32))) fun μ7 => ((if inb x1 9 = true then bd (upA μ7 27 (upd (μ7 27) x1.toNatClampNeg x2)) fun μ9 => (some (μ9, (1 : Int32))) else none)) else none) else (f_X11_fails μ5 (3 : Int32)).bind fun q10 => (some (q10.1, q10.2)))))))))
set_option maxHeartbeats 4000000 in
set_option maxRecDepth 20000 in
theorem c_X11_again (E : Ev) (h : Nat → Nat) (g : Nat → Option Nat) {μ : Mem} {x1 : Int32} {x2 : Int32} {r : (Mem × Int32)} (hf : f_X11_again μ x1 x2 = some r) : Ct E yX11_again cX11_again 3 (some .int) (rmOf 2 42) (wX E h g μ) (wX E h g r.1) [.ref (h 0), .int x1, .int x2] (some (.int r.2)) := by
  refine ct_start RX11 0 (by decide) rfl (Nat.le_of_ble_eq_true rfl) ?_
  intro p l e s m args below meth c A Q X hr hlk hQ
  rw [f_X11_again] at hf
  refine j_iload_n X dX11_again_0 rfl rfl ?_
  obtain ⟨q1, g_q1, hf⟩ := ob_t hf
  refine j_callS X [] (c_X11_isStander E g_q1) rfl rfl rfl (ws' := (wX E h g μ)) rfl k_345 k_346 k_68 k_347 (⟨rfl, rfl⟩) hdS_X11_isStander ⟨Nat.le_of_ble_eq_true rfl, Nat.le_of_ble_eq_true rfl⟩ rfl (Nat.le_of_ble_eq_true rfl) rfl dX11_again_1 ?_
  refine j_if_eq (tgt := 18) X dX11_again_4 (by decide) (fun c_4 => ?_) (fun c_4 => ?_)
  · replace hf := (if_pos c_4).symm.trans hf
    refine j_aload_n X dX11_again_18 rfl rfl ?_
    refine j_iconst (v := (1 : Int32)) X dX11_again_19 (by decide) ?_
    obtain ⟨q2, g_q2, hf⟩ := ob_t hf
    refine j_callV X [0, 1, 2, 3, 4, 5, 6, 7, 8, 9, 10, 11, 12, 13, 14, 15, 16, 17, 18, 19, 20, 21, 22, 23, 24, 25, 26, 27, 28, 29, 30, 31, 32, 33, 34, 35, 36, 37, 38, 39, 40, 41, 42, 43, 44, 45, 46, 47, 48, 49, 50, 51, 52, 53, 54, 55, 56, 57, 58, 59, 60, 61, 62, 63, 64, 65, 66, 67, 68, 69, 70, 71, 72, 73, 74, 75, 76, 77, 78, 79, 80, 81, 82, 83, 84] 0 (c_X11_fails E h g g_q2) (cut_wX_wX_c ..) rfl rfl (ws' := (wX E h g q2.1)) (cut_wX_wX_w ..) (wX_0 ..) rfl k_351 k_353 k_0 k_68 k_354 (⟨rfl, rfl⟩) hdV_X11_fails ⟨Nat.le_of_ble_eq_true rfl, Nat.le_of_ble_eq_true rfl⟩ rfl (Nat.le_of_ble_eq_true rfl) rfl dX11_again_20 ?_
    obtain rfl := Option.some.inj hf
    exact j_iret X hr hlk rfl dX11_again_23 hQ
  · replace hf := (if_neg c_4).symm.trans hf
    refine j_iload_n X dX11_again_7 rfl rfl ?_
    refine j_iconst (v := (1 : Int32)) X dX11_again_8 (by decide) ?_
    refine j_sipush (v := (999 : Int32)) X dX11_again_9 (by decide) ?_
    obtain ⟨q3, g_q3, hf⟩ := ob_t hf
    refine j_callS X [] (c_X11_within E g_q3) rfl rfl rfl (ws' := (wX E h g μ)) rfl k_348 k_349 k_68 k_350 (⟨rfl, rfl⟩) hdS_X11_within ⟨Nat.le_of_ble_eq_true rfl, Nat.le_of_ble_eq_true rfl⟩ rfl (Nat.le_of_ble_eq_true rfl) rfl dX11_again_12 ?_
    refine j_if_ne (tgt := 24) X dX11_again_15 (by decide) (fun c_15 => ?_) (fun c_15 => ?_)
    · replace hf := (if_neg c_15).symm.trans hf
      refine j_aload_n X dX11_again_24 rfl rfl ?_
      refine j_get (C := RX11) (T := TX11) (N := 10) X iX11 0 (wX_0 ..) rfl 0 (by decide) k_310 rfl rfl dX11_again_25 ?_
      refine j_get (C := RX5) (T := TX5) (N := 8) X iX5 1 (wX_1 ..) rfl 2 (by decide) k_239 rfl rfl dX11_again_28 ?_
      refine j_iload_n X dX11_again_31 rfl rfl ?_
      obtain ⟨q4, g_q4, hf⟩ := ob_t hf
      obtain ⟨μ5, e_μ5, hf⟩ := bd_e hf
      refine j_callV X [23, 24, 25, 26, 27, 28, 7, 8, 9, 10, 11, 12, 13, 14, 66, 67, 68, 69, 70, 71, 72, 73] 0 (c_X4_stands E (fun j => h (List.getD [23, 24, 25, 26, 27, 28, 7, 8, 9, 10, 11, 12, 13, 14, 66, 67, 68, 69, 70, 71, 72, 73] j 0)) (fun j => g (List.getD [0, 1] j 0)) g_q4) (cut_wX_wR_23_24_25_c ..) rfl rfl (ws' := (wX E h g μ5)) (by rw [e_μ5]; exact cut_wX_wR_23_24_25_w ..) (wR_0 ..) rfl k_454 k_455 k_456 k_78 k_457 (⟨rfl, rfl⟩) hdV_X4_stands ⟨Nat.le_of_ble_eq_true rfl, Nat.le_of_ble_eq_true rfl⟩ rfl (Nat.le_of_ble_eq_true rfl) rfl dX11_again_32 ?_
      refine j_if_eq (tgt := 44) X dX11_again_35 (by decide) (fun c_35 => ?_) (fun c_35 => ?_)
      · replace hf := (if_pos c_35).symm.trans hf
        refine j_aload_n X dX11_again_44 rfl rfl ?_
        refine j_get (C := RX11) (T := TX11) (N := 10) X iX11 0 (wX_0 ..) rfl 0 (by decide) k_310 rfl rfl dX11_again_45 ?_
        refine j_get (C := RX5) (T := TX5) (N := 8) X iX5 1 (wX_1 ..) rfl 2 (by decide) k_239 rfl rfl dX11_again_48 ?_
        refine j_get (C := RX4) (T := TX4) (N := 10) X iX4 23 (wX_23 ..) rfl 4 (by decide) k_202 rfl rfl dX11_again_51 ?_
        refine j_iload_n X dX11_again_54 rfl rfl ?_
        refine j_iconst (v := (-1 : Int32)) X dX11_again_55 (by decide) ?_
        obtain ⟨c6, hf⟩ := oi_in hf
        obtain ⟨μ7, e_μ7, hf⟩ := bd_e hf
        refine j_iast X 28 (wX_28 ..) c6 dX11_again_56 (ws' := (wX E h g μ7)) (by rw [e_μ7]; exact wX_s28 ..) ?_
        refine j_aload_n X dX11_again_57 rfl rfl ?_
        refine j_get (C := RX11) (T := TX11) (N := 10) X iX11 0 (wX_0 ..) rfl 0 (by decide) k_310 rfl rfl dX11_again_58 ?_
        refine j_get (C := RX5) (T := TX5) (N := 8) X iX5 1 (wX_1 ..) rfl 2 (by decide) k_239 rfl rfl dX11_again_61 ?_
        refine j_get (C := RX4) (T := TX4) (N := 10) X iX4 23 (wX_23 ..) rfl 3 (by decide) k_200 rfl rfl dX11_again_64 ?_
        refine j_iload_n X dX11_again_67 rfl rfl ?_
        refine j_iload_n X dX11_again_68 rfl rfl ?_
        obtain ⟨c8, hf⟩ := oi_in hf
        obtain ⟨μ9, e_μ9, hf⟩ := bd_e hf
        refine j_iast X 27 (wX_27 ..) c8 dX11_again_69 (ws' := (wX E h g μ9)) (by rw [e_μ9]; exact wX_s27 ..) ?_
        refine j_iconst (v := (1 : Int32)) X dX11_again_70 (by decide) ?_
        obtain rfl := Option.some.inj hf
        exact j_iret X hr hlk rfl dX11_again_71 hQ
      · replace hf := (if_neg c_35).symm.trans hf
        refine j_aload_n X dX11_again_38 rfl rfl ?_
        refine j_iconst (v := (3 : Int32)) X dX11_again_39 (by decide) ?_
        obtain ⟨q10, g_q10, hf⟩ := ob_t hf
        refine j_callV X [0, 1, 2, 3, 4, 5, 6, 7, 8, 9, 10, 11, 12, 13, 14, 15, 16, 17, 18, 19, 20, 21, 22, 23, 24, 25, 26, 27, 28, 29, 30, 31, 32, 33, 34, 35, 36, 37, 38, 39, 40, 41, 42, 43, 44, 45, 46, 47, 48, 49, 50, 51, 52, 53, 54, 55, 56, 57, 58, 59, 60, 61, 62, 63, 64, 65, 66, 67, 68, 69, 70, 71, 72, 73, 74, 75, 76, 77, 78, 79, 80, 81, 82, 83, 84] 0 (c_X11_fails E h g g_q10) (cut_wX_wX_c ..) rfl rfl (ws' := (wX E h g q10.1)) (cut_wX_wX_w ..) (wX_0 ..) rfl k_351 k_353 k_0 k_68 k_354 (⟨rfl, rfl⟩) hdV_X11_fails ⟨Nat.le_of_ble_eq_true rfl, Nat.le_of_ble_eq_true rfl⟩ rfl (Nat.le_of_ble_eq_true rfl) rfl dX11_again_40 ?_
        obtain rfl := Option.some.inj hf
        exact j_iret X hr hlk rfl dX11_again_43 hQ
    · replace hf := (if_pos c_15).symm.trans hf
      refine j_aload_n X dX11_again_18 rfl rfl ?_
      refine j_iconst (v := (1 : Int32)) X dX11_again_19 (by decide) ?_
      obtain ⟨q11, g_q11, hf⟩ := ob_t hf
      refine j_callV X [0, 1, 2, 3, 4, 5, 6, 7, 8, 9, 10, 11, 12, 13, 14, 15, 16, 17, 18, 19, 20, 21, 22, 23, 24, 25, 26, 27, 28, 29, 30, 31, 32, 33, 34, 35, 36, 37, 38, 39, 40, 41, 42, 43, 44, 45, 46, 47, 48, 49, 50, 51, 52, 53, 54, 55, 56, 57, 58, 59, 60, 61, 62, 63, 64, 65, 66, 67, 68, 69, 70, 71, 72, 73, 74, 75, 76, 77, 78, 79, 80, 81, 82, 83, 84] 0 (c_X11_fails E h g g_q11) (cut_wX_wX_c ..) rfl rfl (ws' := (wX E h g q11.1)) (cut_wX_wX_w ..) (wX_0 ..) rfl k_351 k_353 k_0 k_68 k_354 (⟨rfl, rfl⟩) hdV_X11_fails ⟨Nat.le_of_ble_eq_true rfl, Nat.le_of_ble_eq_true rfl⟩ rfl (Nat.le_of_ble_eq_true rfl) rfl dX11_again_20 ?_
      obtain rfl := Option.some.inj hf
      exact j_iret X hr hlk rfl dX11_again_23 hQ
def f_X11_sun (μ : Mem) (x1 : Int32) : Option (Mem × Int32) := (f_X11_within x1 (0 : Int32) (9 : Int32)).bind fun q1 => ((if q1 = 0 then (f_X11_fails μ (1 : Int32)).bind fun q4 => (some (q4.1, q4.2)) else bd (μ 23 5) fun y2 => (bd (upA μ 23 (upd (μ 23) 5 x1)) fun μ3 => (some (μ3, y2)))))
set_option maxHeartbeats 4000000 in
set_option maxRecDepth 20000 in
theorem c_X11_sun (E : Ev) (h : Nat → Nat) (g : Nat → Option Nat) {μ : Mem} {x1 : Int32} {r : (Mem × Int32)} (hf : f_X11_sun μ x1 = some r) : Ct E yX11_sun cX11_sun 3 (some .int) (rmOf 1 22) (wX E h g μ) (wX E h g r.1) [.ref (h 0), .int x1] (some (.int r.2)) := by
  refine ct_start RX11 1 (by decide) rfl (Nat.le_of_ble_eq_true rfl) ?_
  intro p l e s m args below meth c A Q X hr hlk hQ
  rw [f_X11_sun] at hf
  refine j_iload_n X dX11_sun_0 rfl rfl ?_
  refine j_iconst (v := (0 : Int32)) X dX11_sun_1 (by decide) ?_
  refine j_bipush (v := (9 : Int32)) X dX11_sun_2 (by decide) ?_
  obtain ⟨q1, g_q1, hf⟩ := ob_t hf
  refine j_callS X [] (c_X11_within E g_q1) rfl rfl rfl (ws' := (wX E h g μ)) rfl k_348 k_349 k_68 k_350 (⟨rfl, rfl⟩) hdS_X11_within ⟨Nat.le_of_ble_eq_true rfl, Nat.le_of_ble_eq_true rfl⟩ rfl (Nat.le_of_ble_eq_true rfl) rfl dX11_sun_4 ?_
  refine j_if_ne (tgt := 16) X dX11_sun_7 (by decide) (fun c_7 => ?_) (fun c_7 => ?_)
  · replace hf := (if_neg c_7).symm.trans hf
    refine j_aload_n X dX11_sun_16 rfl rfl ?_
    refine j_get (C := RX11) (T := TX11) (N := 10) X iX11 0 (wX_0 ..) rfl 0 (by decide) k_310 rfl rfl dX11_sun_17 ?_
    refine j_get (C := RX5) (T := TX5) (N := 8) X iX5 1 (wX_1 ..) rfl 2 (by decide) k_239 rfl rfl dX11_sun_20 ?_
    refine j_get (C := RX4) (T := TX4) (N := 10) X iX4 23 (wX_23 ..) rfl 5 (by decide) k_206 rfl rfl dX11_sun_23 ?_
    obtain ⟨y2, e_y2, hf⟩ := bd_e hf
    refine j_top e_y2 ?_
    refine j_istore_n2 X dX11_sun_26 rfl (by decide) rfl ?_
    refine j_aload_n X dX11_sun_27 rfl rfl ?_
    refine j_get (C := RX11) (T := TX11) (N := 10) X iX11 0 (wX_0 ..) rfl 0 (by decide) k_310 rfl rfl dX11_sun_28 ?_
    refine j_get (C := RX5) (T := TX5) (N := 8) X iX5 1 (wX_1 ..) rfl 2 (by decide) k_239 rfl rfl dX11_sun_31 ?_
    refine j_iload_n X dX11_sun_34 rfl rfl ?_
    obtain ⟨μ3, e_μ3, hf⟩ := bd_e hf
    refine j_put (C := RX4) (T := TX4) (N := 10) X iX4 23 (wX_23 ..) rfl 5 (by decide) k_206 rfl tyX4 tyX4_ok nmX4 rfl (ty := .int) (by decide +kernel) rfl rfl (Nat.le_of_ble_eq_true rfl) dX11_sun_35 (ws' := (wX E h g μ3)) (by rw [e_μ3]; exact wX_f23_5 ..) ?_
    refine j_iload_n X dX11_sun_38 rfl rfl ?_
    obtain rfl := Option.some.inj hf
    exact j_iret X hr hlk rfl dX11_sun_39 hQ
  · replace hf := (if_pos c_7).symm.trans hf
    refine j_aload_n X dX11_sun_10 rfl rfl ?_
    refine j_iconst (v := (1 : Int32)) X dX11_sun_11 (by decide) ?_
    obtain ⟨q4, g_q4, hf⟩ := ob_t hf
    refine j_callV X [0, 1, 2, 3, 4, 5, 6, 7, 8, 9, 10, 11, 12, 13, 14, 15, 16, 17, 18, 19, 20, 21, 22, 23, 24, 25, 26, 27, 28, 29, 30, 31, 32, 33, 34, 35, 36, 37, 38, 39, 40, 41, 42, 43, 44, 45, 46, 47, 48, 49, 50, 51, 52, 53, 54, 55, 56, 57, 58, 59, 60, 61, 62, 63, 64, 65, 66, 67, 68, 69, 70, 71, 72, 73, 74, 75, 76, 77, 78, 79, 80, 81, 82, 83, 84] 0 (c_X11_fails E h g g_q4) (cut_wX_wX_c ..) rfl rfl (ws' := (wX E h g q4.1)) (cut_wX_wX_w ..) (wX_0 ..) rfl k_351 k_353 k_0 k_68 k_354 (⟨rfl, rfl⟩) hdV_X11_fails ⟨Nat.le_of_ble_eq_true rfl, Nat.le_of_ble_eq_true rfl⟩ rfl (Nat.le_of_ble_eq_true rfl) rfl dX11_sun_12 ?_
    obtain rfl := Option.some.inj hf
    exact j_iret X hr hlk rfl dX11_sun_15 hQ
def f_X11_isPost (x0 : Int32) : Option Int32 := (f_X11_within x0 (0 : Int32) (8 : Int32)).bind fun q1 => ((if q1 = 0 ∨ q1 = 1 then some q1 else none))
set_option maxHeartbeats 4000000 in
set_option maxRecDepth 20000 in
theorem c_X11_isPost (E : Ev) {x0 : Int32} {r : Int32} (hf : f_X11_isPost x0 = some r) : Ct E yX11_isPost cX11_isPost 1 (some .boolean) (rmOf 1 22) [] [] [.int x0] (some (.int r)) := by
  refine ct_start RX11 0 (by decide) rfl (Nat.le_of_ble_eq_true rfl) ?_
  intro p l e s m args below meth c A Q X hr hlk hQ
  rw [f_X11_isPost] at hf
  refine j_iload_n X dX11_isPost_0 rfl rfl ?_
  refine j_iconst (v := (0 : Int32)) X dX11_isPost_1 (by decide) ?_
  refine j_bipush (v := (8 : Int32)) X dX11_isPost_2 (by decide) ?_
  obtain ⟨q1, g_q1, hf⟩ := ob_t hf
  refine j_callS X [] (c_X11_within E g_q1) rfl rfl rfl (ws' := []) rfl k_348 k_349 k_68 k_350 (⟨rfl, rfl⟩) hdS_X11_within ⟨Nat.le_of_ble_eq_true rfl, Nat.le_of_ble_eq_true rfl⟩ rfl (Nat.le_of_ble_eq_true rfl) rfl dX11_isPost_4 ?_
  obtain ⟨c2, hf⟩ := oi_t hf
  obtain rfl := Option.some.inj hf
  exact j_iret X hr hlk (nb01 c2) dX11_isPost_7 hQ
def f_X11_at (μ : Mem) (x1 : Int32) : Option (Mem × Int32) := (f_X11_isPost x1).bind fun q1 => ((if q1 = 0 then (f_X11_fails μ (1 : Int32)).bind fun q4 => (some (q4.1, q4.2)) else (f_X4_whoIsAt (sub [23, 24, 25, 26, 27, 28, 7, 8, 9, 10, 11, 12, 13, 14, 66, 67, 68, 69, 70, 71, 72, 73] μ) x1).bind fun q2 => (bd (put [23, 24, 25, 26, 27, 28, 7, 8, 9, 10, 11, 12, 13, 14, 66, 67, 68, 69, 70, 71, 72, 73] μ q2.1) fun μ3 => (some (μ3, q2.2)))))
set_option maxHeartbeats 4000000 in
set_option maxRecDepth 20000 in
theorem c_X11_at (E : Ev) (h : Nat → Nat) (g : Nat → Option Nat) {μ : Mem} {x1 : Int32} {r : (Mem × Int32)} (hf : f_X11_at μ x1 = some r) : Ct E yX11_at cX11_at 2 (some .int) (rmOf 2 42) (wX E h g μ) (wX E h g r.1) [.ref (h 0), .int x1] (some (.int r.2)) := by
  refine ct_start RX11 0 (by decide) rfl (Nat.le_of_ble_eq_true rfl) ?_
  intro p l e s m args below meth c A Q X hr hlk hQ
  rw [f_X11_at] at hf
  refine j_iload_n X dX11_at_0 rfl rfl ?_
  obtain ⟨q1, g_q1, hf⟩ := ob_t hf
  refine j_callS X [] (c_X11_isPost E g_q1) rfl rfl rfl (ws' := (wX E h g μ)) rfl k_500 k_501 k_68 k_502 (⟨rfl, rfl⟩) hdS_X11_isPost ⟨Nat.le_of_ble_eq_true rfl, Nat.le_of_ble_eq_true rfl⟩ rfl (Nat.le_of_ble_eq_true rfl) rfl dX11_at_1 ?_
  refine j_if_ne (tgt := 13) X dX11_at_4 (by decide) (fun c_4 => ?_) (fun c_4 => ?_)
  · replace hf := (if_neg c_4).symm.trans hf
    refine j_aload_n X dX11_at_13 rfl rfl ?_
    refine j_get (C := RX11) (T := TX11) (N := 10) X iX11 0 (wX_0 ..) rfl 0 (by decide) k_310 rfl rfl dX11_at_14 ?_
    refine j_get (C := RX5) (T := TX5) (N := 8) X iX5 1 (wX_1 ..) rfl 2 (by decide) k_239 rfl rfl dX11_at_17 ?_
    refine j_iload_n X dX11_at_20 rfl rfl ?_
    obtain ⟨q2, g_q2, hf⟩ := ob_t hf
    obtain ⟨μ3, e_μ3, hf⟩ := bd_e hf
    refine j_callV X [23, 24, 25, 26, 27, 28, 7, 8, 9, 10, 11, 12, 13, 14, 66, 67, 68, 69, 70, 71, 72, 73] 0 (c_X4_whoIsAt E (fun j => h (List.getD [23, 24, 25, 26, 27, 28, 7, 8, 9, 10, 11, 12, 13, 14, 66, 67, 68, 69, 70, 71, 72, 73] j 0)) (fun j => g (List.getD [0, 1] j 0)) g_q2) (cut_wX_wR_23_24_25_c ..) rfl rfl (ws' := (wX E h g μ3)) (by rw [e_μ3]; exact cut_wX_wR_23_24_25_w ..) (wR_0 ..) rfl k_503 k_504 k_505 k_78 k_506 (⟨rfl, rfl⟩) hdV_X4_whoIsAt ⟨Nat.le_of_ble_eq_true rfl, Nat.le_of_ble_eq_true rfl⟩ rfl (Nat.le_of_ble_eq_true rfl) rfl dX11_at_21 ?_
    obtain rfl := Option.some.inj hf
    exact j_iret X hr hlk rfl dX11_at_24 hQ
  · replace hf := (if_pos c_4).symm.trans hf
    refine j_aload_n X dX11_at_7 rfl rfl ?_
    refine j_iconst (v := (1 : Int32)) X dX11_at_8 (by decide) ?_
    obtain ⟨q4, g_q4, hf⟩ := ob_t hf
    refine j_callV X [0, 1, 2, 3, 4, 5, 6, 7, 8, 9, 10, 11, 12, 13, 14, 15, 16, 17, 18, 19, 20, 21, 22, 23, 24, 25, 26, 27, 28, 29, 30, 31, 32, 33, 34, 35, 36, 37, 38, 39, 40, 41, 42, 43, 44, 45, 46, 47, 48, 49, 50, 51, 52, 53, 54, 55, 56, 57, 58, 59, 60, 61, 62, 63, 64, 65, 66, 67, 68, 69, 70, 71, 72, 73, 74, 75, 76, 77, 78, 79, 80, 81, 82, 83, 84] 0 (c_X11_fails E h g g_q4) (cut_wX_wX_c ..) rfl rfl (ws' := (wX E h g q4.1)) (cut_wX_wX_w ..) (wX_0 ..) rfl k_351 k_353 k_0 k_68 k_354 (⟨rfl, rfl⟩) hdV_X11_fails ⟨Nat.le_of_ble_eq_true rfl, Nat.le_of_ble_eq_true rfl⟩ rfl (Nat.le_of_ble_eq_true rfl) rfl dX11_at_9 ?_
    obtain rfl := Option.some.inj hf
    exact j_iret X hr hlk rfl dX11_at_12 hQ
def f_X11_feed_L39 : Nat → Mem → Int64 → Int32 → Int32 → Option (Mem × Int32)
  | 0, _, _, _, _ => none
  | n + 1, μ, x1, x3, x4 => (if x3 ≤ x4 then some (μ, (μ 1 5)) else (if inb (μ 1 5) 60 = true then bd (upA μ 2 (upd (μ 2) (μ 1 5).toNatClampNeg (vp_nar .byte (((lushr x1 ((8 : Int32) * x4)).toInt32).toInt8.toInt32)))) fun μ3 => (bd (upA μ3 1 (upd (μ3 1) 5 ((μ3 1 5) + (1 : Int32)))) fun μ4 => ((f_X11_feed_L39 n) μ4 x1 x3 (x4 + (1 : Int32)))) else none))
def f_X11_feed (μ : Mem) (x1 : Int64) (x3 : Int32) : Option (Mem × Int32) := (f_X11_within x3 (1 : Int32) (8 : Int32)).bind fun q1 => ((if q1 = 0 then (f_X11_fails μ (1 : Int32)).bind fun q6 => (some (q6.1, q6.2)) else (if (μ 1 5) ≤ ((60 : Int32) - x3) then f_X11_feed_L39 fuel0 μ x1 x3 (0 : Int32) else (f_X11_fails μ (4 : Int32)).bind fun q5 => (some (q5.1, q5.2)))))
set_option maxHeartbeats 4000000 in
set_option maxRecDepth 20000 in
theorem c_X11_feed (E : Ev) (h : Nat → Nat) (g : Nat → Option Nat) {μ : Mem} {x1 : Int64} {x3 : Int32} {r : (Mem × Int32)} (hf : f_X11_feed μ x1 x3 = some r) : Ct E yX11_feed cX11_feed 5 (some .int) (rmOf 1 22) (wX E h g μ) (wX E h g r.1) [.ref (h 0), .long x1, .int x3] (some (.int r.2)) := by
  refine ct_start RX11 1 (by decide) rfl (Nat.le_of_ble_eq_true rfl) ?_
  intro p l e s m args below meth c A Q X hr hlk hQ
  have lab39 : ∀ (n : Nat) (μ : Mem) (x1 : Int64) (x3 : Int32) (x4 : Int32), f_X11_feed_L39 n μ x1 x3 x4 = some r → J p l e (rmOf 1 22) s m args below meth c E A 5 Q (wX E h g μ) [some (.ref (h 0)), some (.long x1), none, some (.int x3), some (.int x4)] 39 [] := by
    intro n
    induction n with
    | zero => intro μ x1 x3 x4 hf; cases (show none = some r from hf)
    | succ n ih =>
      intro μ x1 x3 x4 hf
      rw [f_X11_feed_L39] at hf
      refine j_iload X dX11_feed_39 rfl ?_
      refine j_iload_n X dX11_feed_41 rfl rfl ?_
      refine j_icmp_ge (tgt := 88) X dX11_feed_42 (by decide) (fun c_42 => ?_) (fun c_42 => ?_)
      · replace hf := (if_pos c_42).symm.trans hf
        refine j_aload_n X dX11_feed_88 rfl rfl ?_
        refine j_get (C := RX11) (T := TX11) (N := 10) X iX11 0 (wX_0 ..) rfl 0 (by decide) k_310 rfl rfl dX11_feed_89 ?_
        refine j_get (C := RX5) (T := TX5) (N := 8) X iX5 1 (wX_1 ..) rfl 5 (by decide) k_245 rfl rfl dX11_feed_92 ?_
        obtain rfl := Option.some.inj hf
        exact j_iret X hr hlk rfl dX11_feed_95 hQ
      · replace hf := (if_neg c_42).symm.trans hf
        refine j_aload_n X dX11_feed_45 rfl rfl ?_
        refine j_get (C := RX11) (T := TX11) (N := 10) X iX11 0 (wX_0 ..) rfl 0 (by decide) k_310 rfl rfl dX11_feed_46 ?_
        refine j_get (C := RX5) (T := TX5) (N := 8) X iX5 1 (wX_1 ..) rfl 3 (by decide) k_241 rfl rfl dX11_feed_49 ?_
        refine j_aload_n X dX11_feed_52 rfl rfl ?_
        refine j_get (C := RX11) (T := TX11) (N := 10) X iX11 0 (wX_0 ..) rfl 0 (by decide) k_310 rfl rfl dX11_feed_53 ?_
        refine j_get (C := RX5) (T := TX5) (N := 8) X iX5 1 (wX_1 ..) rfl 5 (by decide) k_245 rfl rfl dX11_feed_56 ?_
        refine j_lload_n X dX11_feed_59 rfl rfl ?_
        refine j_bipush (v := (8 : Int32)) X dX11_feed_60 (by decide) ?_
        refine j_iload X dX11_feed_62 rfl ?_
        refine j_imul X dX11_feed_64 ?_
        refine j_lushr X dX11_feed_65 ?_
        refine j_l2i X dX11_feed_66 ?_
        refine j_i2b X dX11_feed_67 ?_
        obtain ⟨c2, hf⟩ := oi_in hf
        obtain ⟨μ3, e_μ3, hf⟩ := bd_e hf
        refine j_bast X 2 (wX_2 ..) c2 dX11_feed_68 (ws' := (wX E h g μ3)) (by rw [e_μ3]; exact wX_s2 ..) ?_
        refine j_aload_n X dX11_feed_69 rfl rfl ?_
        refine j_get (C := RX11) (T := TX11) (N := 10) X iX11 0 (wX_0 ..) rfl 0 (by decide) k_310 rfl rfl dX11_feed_70 ?_
        refine j_dup X dX11_feed_73 rfl ?_
        refine j_get (C := RX5) (T := TX5) (N := 8) X iX5 1 (wX_1 ..) rfl 5 (by decide) k_245 rfl rfl dX11_feed_74 ?_
        refine j_iconst (v := (1 : Int32)) X dX11_feed_77 (by decide) ?_
        refine j_iadd X dX11_feed_78 ?_
        obtain ⟨μ4, e_μ4, hf⟩ := bd_e hf
        refine j_put (C := RX5) (T := TX5) (N := 8) X iX5 1 (wX_1 ..) rfl 5 (by decide) k_245 rfl tyX5 tyX5_ok nmX5 rfl (ty := .int) (by decide +kernel) rfl rfl (Nat.le_of_ble_eq_true rfl) dX11_feed_79 (ws' := (wX E h g μ4)) (by rw [e_μ4]; exact wX_f1_5 ..) ?_
        refine j_iinc4 (k := (1 : Int32)) X dX11_feed_82 (by decide) (by decide) rfl ?_
        refine j_goto (tgt := 39) X dX11_feed_85 (by decide) ?_
        refine j_keep [true, true, false, true, true] rfl ?_
        exact ih _ _ _ _ hf
  rw [f_X11_feed] at hf
  refine j_iload_n X dX11_feed_0 rfl rfl ?_
  refine j_iconst (v := (1 : Int32)) X dX11_feed_1 (by decide) ?_
  refine j_bipush (v := (8 : Int32)) X dX11_feed_2 (by decide) ?_
  obtain ⟨q1, g_q1, hf⟩ := ob_t hf
  refine j_callS X [] (c_X11_within E g_q1) rfl rfl rfl (ws' := (wX E h g μ)) rfl k_348 k_349 k_68 k_350 (⟨rfl, rfl⟩) hdS_X11_within ⟨Nat.le_of_ble_eq_true rfl, Nat.le_of_ble_eq_true rfl⟩ rfl (Nat.le_of_ble_eq_true rfl) rfl dX11_feed_4 ?_
  refine j_if_ne (tgt := 16) X dX11_feed_7 (by decide) (fun c_7 => ?_) (fun c_7 => ?_)
  · replace hf := (if_neg c_7).symm.trans hf
    refine j_aload_n X dX11_feed_16 rfl rfl ?_
    refine j_get (C := RX11) (T := TX11) (N := 10) X iX11 0 (wX_0 ..) rfl 0 (by decide) k_310 rfl rfl dX11_feed_17 ?_
    refine j_get (C := RX5) (T := TX5) (N := 8) X iX5 1 (wX_1 ..) rfl 5 (by decide) k_245 rfl rfl dX11_feed_20 ?_
    refine j_bipush (v := (60 : Int32)) X dX11_feed_23 (by decide) ?_
    refine j_iload_n X dX11_feed_25 rfl rfl ?_
    refine j_isub X dX11_feed_26 ?_
    refine j_icmp_le (tgt := 36) X dX11_feed_27 (by decide) (fun c_27 => ?_) (fun c_27 => ?_)
    · replace hf := (if_pos c_27).symm.trans hf
      refine j_iconst (v := (0 : Int32)) X dX11_feed_36 (by decide) ?_
      refine j_istore4 X dX11_feed_37 (by decide) rfl ?_
      refine j_keep [true, true, false, true, true] rfl ?_
      exact lab39 _ _ _ _ _ hf
    · replace hf := (if_neg c_27).symm.trans hf
      refine j_aload_n X dX11_feed_30 rfl rfl ?_
      refine j_iconst (v := (4 : Int32)) X dX11_feed_31 (by decide) ?_
      obtain ⟨q5, g_q5, hf⟩ := ob_t hf
      refine j_callV X [0, 1, 2, 3, 4, 5, 6, 7, 8, 9, 10, 11, 12, 13, 14, 15, 16, 17, 18, 19, 20, 21, 22, 23, 24, 25, 26, 27, 28, 29, 30, 31, 32, 33, 34, 35, 36, 37, 38, 39, 40, 41, 42, 43, 44, 45, 46, 47, 48, 49, 50, 51, 52, 53, 54, 55, 56, 57, 58, 59, 60, 61, 62, 63, 64, 65, 66, 67, 68, 69, 70, 71, 72, 73, 74, 75, 76, 77, 78, 79, 80, 81, 82, 83, 84] 0 (c_X11_fails E h g g_q5) (cut_wX_wX_c ..) rfl rfl (ws' := (wX E h g q5.1)) (cut_wX_wX_w ..) (wX_0 ..) rfl k_351 k_353 k_0 k_68 k_354 (⟨rfl, rfl⟩) hdV_X11_fails ⟨Nat.le_of_ble_eq_true rfl, Nat.le_of_ble_eq_true rfl⟩ rfl (Nat.le_of_ble_eq_true rfl) rfl dX11_feed_32 ?_
      obtain rfl := Option.some.inj hf
      exact j_iret X hr hlk rfl dX11_feed_35 hQ
  · replace hf := (if_pos c_7).symm.trans hf
    refine j_aload_n X dX11_feed_10 rfl rfl ?_
    refine j_iconst (v := (1 : Int32)) X dX11_feed_11 (by decide) ?_
    obtain ⟨q6, g_q6, hf⟩ := ob_t hf
    refine j_callV X [0, 1, 2, 3, 4, 5, 6, 7, 8, 9, 10, 11, 12, 13, 14, 15, 16, 17, 18, 19, 20, 21, 22, 23, 24, 25, 26, 27, 28, 29, 30, 31, 32, 33, 34, 35, 36, 37, 38, 39, 40, 41, 42, 43, 44, 45, 46, 47, 48, 49, 50, 51, 52, 53, 54, 55, 56, 57, 58, 59, 60, 61, 62, 63, 64, 65, 66, 67, 68, 69, 70, 71, 72, 73, 74, 75, 76, 77, 78, 79, 80, 81, 82, 83, 84] 0 (c_X11_fails E h g g_q6) (cut_wX_wX_c ..) rfl rfl (ws' := (wX E h g q6.1)) (cut_wX_wX_w ..) (wX_0 ..) rfl k_351 k_353 k_0 k_68 k_354 (⟨rfl, rfl⟩) hdV_X11_fails ⟨Nat.le_of_ble_eq_true rfl, Nat.le_of_ble_eq_true rfl⟩ rfl (Nat.le_of_ble_eq_true rfl) rfl dX11_feed_12 ?_
    obtain rfl := Option.some.inj hf
    exact j_iret X hr hlk rfl dX11_feed_15 hQ
theorem cut_wX_wZ_1_7_11_c (E : Ev) (h : Nat → Nat) (g : Nat → Option Nat) (μ : Mem) : ([1] : List Nat).map (fun i => (wX E h g μ)[i]?) = (wZ E (fun j => h (List.getD [1, 7, 11, 23, 2, 3] j 0)) (fun j => g (List.getD ([] : List Nat) j 0)) (sub [1] μ)).map some := rfl
theorem cut_wX_wZ_1_7_11_w (E : Ev) (h : Nat → Nat) (g : Nat → Option Nat) (μ : Mem) (ν : Mem) : putW (wX E h g μ) [1] (wZ E (fun j => h (List.getD [1, 7, 11, 23, 2, 3] j 0)) (fun j => g (List.getD ([] : List Nat) j 0)) ν) = wX E h g (put [1] μ ν) := putW_A (by decide +kernel) rfl rfl
def f_X11_text (μ : Mem) (x1 : Int32) : Option (Mem × Int32 × Nat) := (f_X11_within x1 (0 : Int32) (1 : Int32)).bind fun q1 => ((if q1 = 0 then (f_X11_fails μ (1 : Int32)).bind fun q16 => (some (q16.1, q16.2, 0)) else (f_X5_lawOf (sub [1] μ) x1).bind fun q2 => (bd (put [1] μ q2.1) fun μ3 => ((if q2.2 = 1 then (f_X1_read (sub [7, 8, 9, 10, 2] μ3) (μ3 1 5)).bind fun q4 => (if q4.2.2 = true then bd (swm 9 10 (put [7, 8, 9, 10, 2] μ3 q4.1)) fun μ6 => (bd (upA μ6 1 (upd (μ6 1) 5 (0 : Int32))) fun μ7 => ((if 0 ≤ q4.2.1 then some (μ7, ((-10 : Int32) - q4.2.1), 2) else some (μ7, (1 : Int32), 2)))) else bd ((put [7, 8, 9, 10, 2] μ3 q4.1)) fun μ8 => (bd (upA μ8 1 (upd (μ8 1) 5 (0 : Int32))) fun μ9 => ((if 0 ≤ q4.2.1 then some (μ9, ((-10 : Int32) - q4.2.1), 1) else some (μ9, (1 : Int32), 1))))) else (if q2.2 = 2 then (f_X1_read (sub [11, 12, 13, 14, 2] μ3) (μ3 1 5)).bind fun q10 => (if q10.2.2 = true then bd (swm 13 14 (put [11, 12, 13, 14, 2] μ3 q10.1)) fun μ12 => (bd (upA μ12 1 (upd (μ12 1) 5 (0 : Int32))) fun μ13 => ((if 0 ≤ q10.2.1 then some (μ13, ((-10 : Int32) - q10.2.1), 4) else some (μ13, (1 : Int32), 4)))) else bd ((put [11, 12, 13, 14, 2] μ3 q10.1)) fun μ14 => (bd (upA μ14 1 (upd (μ14 1) 5 (0 : Int32))) fun μ15 => ((if 0 ≤ q10.2.1 then some (μ15, ((-10 : Int32) - q10.2.1), 3) else some (μ15, (1 : Int32), 3))))) else none))))))
set_option maxHeartbeats 4000000 in
set_option maxRecDepth 20000 in
theorem c_X11_text (E : Ev) (h : Nat → Nat) (g : Nat → Option Nat) {μ : Mem} {x1 : Int32} {r : (Mem × Int32 × Nat)} (hf : f_X11_text μ x1 = some r) : Ct E yX11_text cX11_text 3 (some .int) (rmOf 194 4078) (wX E h g μ) (wX E (hOf r.2.2 h) (gOf r.2.2 h g) r.1) [.ref (h 0), .int x1] (some (.int r.2.1)) := by
  refine ct_start RX11 1 (by decide) rfl (Nat.le_of_ble_eq_true rfl) ?_
  intro p l e s m args below meth c A Q X hr hlk hQ
  rw [f_X11_text] at hf
  refine j_iload_n X dX11_text_0 rfl rfl ?_
  refine j_iconst (v := (0 : Int32)) X dX11_text_1 (by decide) ?_
  refine j_iconst (v := (1 : Int32)) X dX11_text_2 (by decide) ?_
  obtain ⟨q1, g_q1, hf⟩ := ob_t hf
  refine j_callS X [] (c_X11_within E g_q1) rfl rfl rfl (ws' := (wX E h g μ)) rfl k_348 k_349 k_68 k_350 (⟨rfl, rfl⟩) hdS_X11_within ⟨Nat.le_of_ble_eq_true rfl, Nat.le_of_ble_eq_true rfl⟩ rfl (Nat.le_of_ble_eq_true rfl) rfl dX11_text_3 ?_
  refine j_if_ne (tgt := 15) X dX11_text_6 (by decide) (fun c_6 => ?_) (fun c_6 => ?_)
  · replace hf := (if_neg c_6).symm.trans hf
    refine j_aload_n X dX11_text_15 rfl rfl ?_
    refine j_get (C := RX11) (T := TX11) (N := 10) X iX11 0 (wX_0 ..) rfl 0 (by decide) k_310 rfl rfl dX11_text_16 ?_
    refine j_iload_n X dX11_text_19 rfl rfl ?_
    obtain ⟨q2, g_q2, hf⟩ := ob_t hf
    obtain ⟨μ3, e_μ3, hf⟩ := bd_e hf
    refine j_callV X [1] 0 (c_X5_lawOf E (fun j => h (List.getD [1, 7, 11, 23, 2, 3] j 0)) (fun j => g (List.getD [] j 0)) g_q2) (cut_wX_wZ_1_7_11_c ..) rfl rfl (ws' := (wX E h g μ3)) (by rw [e_μ3]; exact cut_wX_wZ_1_7_11_w ..) (wZ_0 ..) rfl k_515 k_516 k_517 k_76 k_518 (⟨rfl, rfl⟩) hdV_X5_lawOf ⟨Nat.le_of_ble_eq_true rfl, Nat.le_of_ble_eq_true rfl⟩ rfl (Nat.le_of_ble_eq_true rfl) rfl dX11_text_20 ?_
    by_cases n_20_0 : q2.2 = 1
    · replace hf := (if_pos n_20_0).symm.trans hf
      refine j_stk (st' := [.ref (h 7)]) (by rw [n_20_0]; rfl) ?_
      refine j_aload_n X dX11_text_23 rfl rfl ?_
      refine j_get (C := RX11) (T := TX11) (N := 10) X iX11 0 (wX_0 ..) rfl 0 (by decide) k_310 rfl rfl dX11_text_24 ?_
      refine j_get (C := RX5) (T := TX5) (N := 8) X iX5 1 (wX_1 ..) rfl 3 (by decide) k_241 rfl rfl dX11_text_27 ?_
      refine j_aload_n X dX11_text_30 rfl rfl ?_
      refine j_get (C := RX11) (T := TX11) (N := 10) X iX11 0 (wX_0 ..) rfl 0 (by decide) k_310 rfl rfl dX11_text_31 ?_
      refine j_get (C := RX5) (T := TX5) (N := 8) X iX5 1 (wX_1 ..) rfl 5 (by decide) k_245 rfl rfl dX11_text_34 ?_
      obtain ⟨q4, g_q4, hf⟩ := ob_t hf
      have K_q4 := c_X1_read E (fun j => h (List.getD [7, 8, 9, 10, 2] j 0)) (fun j => g (List.getD [0] j 0)) g_q4
      by_cases n5 : q4.2.2 = true
      · replace hf := (if_pos n5).symm.trans hf
        rw [if_pos n5] at K_q4
        obtain ⟨μ6, e_μ6, hf⟩ := bd_e hf
        refine j_callV X [7, 8, 9, 10, 2] 0 K_q4 (cutrd7_c ..) rfl rfl (ws' := wX7s E h g (put [7, 8, 9, 10, 2] μ3 q4.1)) (cutrd7s_w ..) (wB0_0 ..) rfl k_519 k_520 k_521 k_77 k_522 (⟨rfl, rfl⟩) hdV_X1_read ⟨Nat.le_of_ble_eq_true rfl, Nat.le_of_ble_eq_true rfl⟩ rfl (Nat.le_of_ble_eq_true rfl) rfl dX11_text_37 ?_
        refine j_perm pm7 (by decide +kernel) (ws' := wX E (swh 9 10 h) (gset g 0 (h 2)) μ6) (by rw [e_μ6]; exact perm7 ..) ?_
        refine j_istore_n2 X dX11_text_40 rfl (by decide) rfl ?_
        refine j_aload_n X dX11_text_41 rfl rfl ?_
        refine j_get (C := RX11) (T := TX11) (N := 10) X iX11 0 (wX_0 ..) rfl 0 (by decide) k_310 rfl rfl dX11_text_42 ?_
        refine j_iconst (v := (0 : Int32)) X dX11_text_45 (by decide) ?_
        obtain ⟨μ7, e_μ7, hf⟩ := bd_e hf
        refine j_put (C := RX5) (T := TX5) (N := 8) X iX5 1 (wX_1 ..) rfl 5 (by decide) k_245 rfl tyX5 tyX5_ok nmX5 rfl (ty := .int) (by decide +kernel) rfl rfl (Nat.le_of_ble_eq_true rfl) dX11_text_46 (ws' := (wX E (swh 9 10 h) (gset g 0 (h 2)) μ7)) (by rw [e_μ7]; exact wX_f1_5 ..) ?_
        refine j_iload_n X dX11_text_49 rfl rfl ?_
        refine j_if_ge (tgt := 57) X dX11_text_50 (by decide) (fun c_50 => ?_) (fun c_50 => ?_)
        · replace hf := (if_pos c_50).symm.trans hf
          refine j_bipush (v := (-10 : Int32)) X dX11_text_57 (by decide) ?_
          refine j_iload_n X dX11_text_59 rfl rfl ?_
          refine j_isub X dX11_text_60 ?_
          obtain rfl := Option.some.inj hf
          exact j_iret X hr hlk rfl dX11_text_61 hQ
        · replace hf := (if_neg c_50).symm.trans hf
          refine j_iconst (v := (1 : Int32)) X dX11_text_53 (by decide) ?_
          refine j_goto (tgt := 61) X dX11_text_54 (by decide) ?_
          obtain rfl := Option.some.inj hf
          exact j_iret X hr hlk rfl dX11_text_61 hQ
      · replace hf := (if_neg n5).symm.trans hf
        rw [if_neg n5] at K_q4
        obtain ⟨μ8, e_μ8, hf⟩ := bd_e hf
        refine j_callV X [7, 8, 9, 10, 2] 0 K_q4 (cutrd7_c ..) rfl rfl (ws' := wX7t E h g (put [7, 8, 9, 10, 2] μ3 q4.1)) (cutrd7t_w ..) (wB0_0 ..) rfl k_519 k_520 k_521 k_77 k_522 (⟨rfl, rfl⟩) hdV_X1_read ⟨Nat.le_of_ble_eq_true rfl, Nat.le_of_ble_eq_true rfl⟩ rfl (Nat.le_of_ble_eq_true rfl) rfl dX11_text_37 ?_
        refine j_world (ws' := wX E h (gset g 0 (h 2)) μ8) (by rw [e_μ8]; exact same7 ..) ?_
        refine j_istore_n2 X dX11_text_40 rfl (by decide) rfl ?_
        refine j_aload_n X dX11_text_41 rfl rfl ?_
        refine j_get (C := RX11) (T := TX11) (N := 10) X iX11 0 (wX_0 ..) rfl 0 (by decide) k_310 rfl rfl dX11_text_42 ?_
        refine j_iconst (v := (0 : Int32)) X dX11_text_45 (by decide) ?_
        obtain ⟨μ9, e_μ9, hf⟩ := bd_e hf
        refine j_put (C := RX5) (T := TX5) (N := 8) X iX5 1 (wX_1 ..) rfl 5 (by decide) k_245 rfl tyX5 tyX5_ok nmX5 rfl (ty := .int) (by decide +kernel) rfl rfl (Nat.le_of_ble_eq_true rfl) dX11_text_46 (ws' := (wX E h (gset g 0 (h 2)) μ9)) (by rw [e_μ9]; exact wX_f1_5 ..) ?_
        refine j_iload_n X dX11_text_49 rfl rfl ?_
        refine j_if_ge (tgt := 57) X dX11_text_50 (by decide) (fun c_50 => ?_) (fun c_50 => ?_)
        · replace hf := (if_pos c_50).symm.trans hf
          refine j_bipush (v := (-10 : Int32)) X dX11_text_57 (by decide) ?_
          refine j_iload_n X dX11_text_59 rfl rfl ?_
          refine j_isub X dX11_text_60 ?_
          obtain rfl := Option.some.inj hf
          exact j_iret X hr hlk rfl dX11_text_61 hQ
        · replace hf := (if_neg c_50).symm.trans hf
          refine j_iconst (v := (1 : Int32)) X dX11_text_53 (by decide) ?_
          refine j_goto (tgt := 61) X dX11_text_54 (by decide) ?_
          obtain rfl := Option.some.inj hf
          exact j_iret X hr hlk rfl dX11_text_61 hQ
    · replace hf := (if_neg n_20_0).symm.trans hf
      by_cases n_20_1 : q2.2 = 2
      · replace hf := (if_pos n_20_1).symm.trans hf
        refine j_stk (st' := [.ref (h 11)]) (by rw [n_20_1]; rfl) ?_
        refine j_aload_n X dX11_text_23 rfl rfl ?_
        refine j_get (C := RX11) (T := TX11) (N := 10) X iX11 0 (wX_0 ..) rfl 0 (by decide) k_310 rfl rfl dX11_text_24 ?_
        refine j_get (C := RX5) (T := TX5) (N := 8) X iX5 1 (wX_1 ..) rfl 3 (by decide) k_241 rfl rfl dX11_text_27 ?_
        refine j_aload_n X dX11_text_30 rfl rfl ?_
        refine j_get (C := RX11) (T := TX11) (N := 10) X iX11 0 (wX_0 ..) rfl 0 (by decide) k_310 rfl rfl dX11_text_31 ?_
        refine j_get (C := RX5) (T := TX5) (N := 8) X iX5 1 (wX_1 ..) rfl 5 (by decide) k_245 rfl rfl dX11_text_34 ?_
        obtain ⟨q10, g_q10, hf⟩ := ob_t hf
        have K_q10 := c_X1_read E (fun j => h (List.getD [11, 12, 13, 14, 2] j 0)) (fun j => g (List.getD [1] j 0)) g_q10
        by_cases n11 : q10.2.2 = true
        · replace hf := (if_pos n11).symm.trans hf
          rw [if_pos n11] at K_q10
          obtain ⟨μ12, e_μ12, hf⟩ := bd_e hf
          refine j_callV X [11, 12, 13, 14, 2] 0 K_q10 (cutrd11_c ..) rfl rfl (ws' := wX11s E h g (put [11, 12, 13, 14, 2] μ3 q10.1)) (cutrd11s_w ..) (wB0_0 ..) rfl k_519 k_520 k_521 k_77 k_522 (⟨rfl, rfl⟩) hdV_X1_read ⟨Nat.le_of_ble_eq_true rfl, Nat.le_of_ble_eq_true rfl⟩ rfl (Nat.le_of_ble_eq_true rfl) rfl dX11_text_37 ?_
          refine j_perm pm11 (by decide +kernel) (ws' := wX E (swh 13 14 h) (gset g 1 (h 2)) μ12) (by rw [e_μ12]; exact perm11 ..) ?_
          refine j_istore_n2 X dX11_text_40 rfl (by decide) rfl ?_
          refine j_aload_n X dX11_text_41 rfl rfl ?_
          refine j_get (C := RX11) (T := TX11) (N := 10) X iX11 0 (wX_0 ..) rfl 0 (by decide) k_310 rfl rfl dX11_text_42 ?_
          refine j_iconst (v := (0 : Int32)) X dX11_text_45 (by decide) ?_
          obtain ⟨μ13, e_μ13, hf⟩ := bd_e hf
          refine j_put (C := RX5) (T := TX5) (N := 8) X iX5 1 (wX_1 ..) rfl 5 (by decide) k_245 rfl tyX5 tyX5_ok nmX5 rfl (ty := .int) (by decide +kernel) rfl rfl (Nat.le_of_ble_eq_true rfl) dX11_text_46 (ws' := (wX E (swh 13 14 h) (gset g 1 (h 2)) μ13)) (by rw [e_μ13]; exact wX_f1_5 ..) ?_
          refine j_iload_n X dX11_text_49 rfl rfl ?_
          refine j_if_ge (tgt := 57) X dX11_text_50 (by decide) (fun c_50 => ?_) (fun c_50 => ?_)
          · replace hf := (if_pos c_50).symm.trans hf
            refine j_bipush (v := (-10 : Int32)) X dX11_text_57 (by decide) ?_
            refine j_iload_n X dX11_text_59 rfl rfl ?_
            refine j_isub X dX11_text_60 ?_
            obtain rfl := Option.some.inj hf
            exact j_iret X hr hlk rfl dX11_text_61 hQ
          · replace hf := (if_neg c_50).symm.trans hf
            refine j_iconst (v := (1 : Int32)) X dX11_text_53 (by decide) ?_
            refine j_goto (tgt := 61) X dX11_text_54 (by decide) ?_
            obtain rfl := Option.some.inj hf
            exact j_iret X hr hlk rfl dX11_text_61 hQ
        · replace hf := (if_neg n11).symm.trans hf
          rw [if_neg n11] at K_q10
          obtain ⟨μ14, e_μ14, hf⟩ := bd_e hf
          refine j_callV X [11, 12, 13, 14, 2] 0 K_q10 (cutrd11_c ..) rfl rfl (ws' := wX11t E h g (put [11, 12, 13, 14, 2] μ3 q10.1)) (cutrd11t_w ..) (wB0_0 ..) rfl k_519 k_520 k_521 k_77 k_522 (⟨rfl, rfl⟩) hdV_X1_read ⟨Nat.le_of_ble_eq_true rfl, Nat.le_of_ble_eq_true rfl⟩ rfl (Nat.le_of_ble_eq_true rfl) rfl dX11_text_37 ?_
          refine j_world (ws' := wX E h (gset g 1 (h 2)) μ14) (by rw [e_μ14]; exact same11 ..) ?_
          refine j_istore_n2 X dX11_text_40 rfl (by decide) rfl ?_
          refine j_aload_n X dX11_text_41 rfl rfl ?_
          refine j_get (C := RX11) (T := TX11) (N := 10) X iX11 0 (wX_0 ..) rfl 0 (by decide) k_310 rfl rfl dX11_text_42 ?_
          refine j_iconst (v := (0 : Int32)) X dX11_text_45 (by decide) ?_
          obtain ⟨μ15, e_μ15, hf⟩ := bd_e hf
          refine j_put (C := RX5) (T := TX5) (N := 8) X iX5 1 (wX_1 ..) rfl 5 (by decide) k_245 rfl tyX5 tyX5_ok nmX5 rfl (ty := .int) (by decide +kernel) rfl rfl (Nat.le_of_ble_eq_true rfl) dX11_text_46 (ws' := (wX E h (gset g 1 (h 2)) μ15)) (by rw [e_μ15]; exact wX_f1_5 ..) ?_
          refine j_iload_n X dX11_text_49 rfl rfl ?_
          refine j_if_ge (tgt := 57) X dX11_text_50 (by decide) (fun c_50 => ?_) (fun c_50 => ?_)
          · replace hf := (if_pos c_50).symm.trans hf
            refine j_bipush (v := (-10 : Int32)) X dX11_text_57 (by decide) ?_
            refine j_iload_n X dX11_text_59 rfl rfl ?_
            refine j_isub X dX11_text_60 ?_
            obtain rfl := Option.some.inj hf
            exact j_iret X hr hlk rfl dX11_text_61 hQ
          · replace hf := (if_neg c_50).symm.trans hf
            refine j_iconst (v := (1 : Int32)) X dX11_text_53 (by decide) ?_
            refine j_goto (tgt := 61) X dX11_text_54 (by decide) ?_
            obtain rfl := Option.some.inj hf
            exact j_iret X hr hlk rfl dX11_text_61 hQ
      · replace hf := (if_neg n_20_1).symm.trans hf
        cases hf
  · replace hf := (if_pos c_6).symm.trans hf
    refine j_aload_n X dX11_text_9 rfl rfl ?_
    refine j_iconst (v := (1 : Int32)) X dX11_text_10 (by decide) ?_
    obtain ⟨q16, g_q16, hf⟩ := ob_t hf
    refine j_callV X [0, 1, 2, 3, 4, 5, 6, 7, 8, 9, 10, 11, 12, 13, 14, 15, 16, 17, 18, 19, 20, 21, 22, 23, 24, 25, 26, 27, 28, 29, 30, 31, 32, 33, 34, 35, 36, 37, 38, 39, 40, 41, 42, 43, 44, 45, 46, 47, 48, 49, 50, 51, 52, 53, 54, 55, 56, 57, 58, 59, 60, 61, 62, 63, 64, 65, 66, 67, 68, 69, 70, 71, 72, 73, 74, 75, 76, 77, 78, 79, 80, 81, 82, 83, 84] 0 (c_X11_fails E h g g_q16) (cut_wX_wX_c ..) rfl rfl (ws' := (wX E h g q16.1)) (cut_wX_wX_w ..) (wX_0 ..) rfl k_351 k_353 k_0 k_68 k_354 (⟨rfl, rfl⟩) hdV_X11_fails ⟨Nat.le_of_ble_eq_true rfl, Nat.le_of_ble_eq_true rfl⟩ rfl (Nat.le_of_ble_eq_true rfl) rfl dX11_text_11 ?_
    obtain rfl := Option.some.inj hf
    exact j_iret X hr hlk rfl dX11_text_14 hQ
theorem cut_wX_wL_7_8_9_c (E : Ev) (h : Nat → Nat) (g : Nat → Option Nat) (μ : Mem) : ([7, 8, 9, 10] : List Nat).map (fun i => (wX E h g μ)[i]?) = (wL E (fun j => h (List.getD [7, 8, 9, 10] j 0)) (fun j => g (List.getD [0] j 0)) (sub [7, 8, 9, 10] μ)).map some := rfl
theorem cut_wX_wL_7_8_9_w (E : Ev) (h : Nat → Nat) (g : Nat → Option Nat) (μ : Mem) (ν : Mem) : putW (wX E h g μ) [7, 8, 9, 10] (wL E (fun j => h (List.getD [7, 8, 9, 10] j 0)) (fun j => g (List.getD [0] j 0)) ν) = wX E h g (put [7, 8, 9, 10] μ ν) := putW_A (by decide +kernel) rfl rfl
theorem cut_wX_wL_11_12_13_c (E : Ev) (h : Nat → Nat) (g : Nat → Option Nat) (μ : Mem) : ([11, 12, 13, 14] : List Nat).map (fun i => (wX E h g μ)[i]?) = (wL E (fun j => h (List.getD [11, 12, 13, 14] j 0)) (fun j => g (List.getD [1] j 0)) (sub [11, 12, 13, 14] μ)).map some := rfl
theorem cut_wX_wL_11_12_13_w (E : Ev) (h : Nat → Nat) (g : Nat → Option Nat) (μ : Mem) (ν : Mem) : putW (wX E h g μ) [11, 12, 13, 14] (wL E (fun j => h (List.getD [11, 12, 13, 14] j 0)) (fun j => g (List.getD [1] j 0)) ν) = wX E h g (put [11, 12, 13, 14] μ ν) := putW_A (by decide +kernel) rfl rfl
def f_X11_untell (μ : Mem) (x1 : Int32) : Option (Mem × Int32) := (f_X11_within x1 (0 : Int32) (1 : Int32)).bind fun q1 => ((if q1 = 0 then (f_X11_fails μ (1 : Int32)).bind fun q16 => (some (q16.1, q16.2)) else (f_X5_lawOf (sub [1] μ) x1).bind fun q2 => (bd (put [1] μ q2.1) fun μ3 => ((if q2.2 = 1 then (f_X1_isMissing (sub [7, 8, 9, 10] μ3)).bind fun q4 => (bd (put [7, 8, 9, 10] μ3 q4.1) fun μ5 => ((if q4.2 = 0 then (f_X1_forget (sub [7, 8, 9, 10] μ5)).bind fun q6 => (bd (put [7, 8, 9, 10] μ5 q6) fun μ7 => (some (μ7, (1 : Int32)))) else (f_X1_forget (sub [7, 8, 9, 10] μ5)).bind fun q8 => (bd (put [7, 8, 9, 10] μ5 q8) fun μ9 => (some (μ9, (0 : Int32))))))) else (if q2.2 = 2 then (f_X1_isMissing (sub [11, 12, 13, 14] μ3)).bind fun q10 => (bd (put [11, 12, 13, 14] μ3 q10.1) fun μ11 => ((if q10.2 = 0 then (f_X1_forget (sub [11, 12, 13, 14] μ11)).bind fun q12 => (bd (put [11, 12, 13, 14] μ11 q12) fun μ13 => (some (μ13, (1 : Int32)))) else (f_X1_forget (sub [11, 12, 13, 14] μ11)).bind fun q14 => (bd (put [11, 12, 13, 14] μ11 q14) fun μ15 => (some (μ15, (0 : Int32))))))) else none))))))
set_option maxHeartbeats 4000000 in
set_option maxRecDepth 20000 in
theorem c_X11_untell (E : Ev) (h : Nat → Nat) (g : Nat → Option Nat) {μ : Mem} {x1 : Int32} {r : (Mem × Int32)} (hf : f_X11_untell μ x1 = some r) : Ct E yX11_untell cX11_untell 4 (some .int) (rmOf 1 22) (wX E h g μ) (wX E h g r.1) [.ref (h 0), .int x1] (some (.int r.2)) := by
  refine ct_start RX11 2 (by decide) rfl (Nat.le_of_ble_eq_true rfl) ?_
  intro p l e s m args below meth c A Q X hr hlk hQ
  rw [f_X11_untell] at hf
  refine j_iload_n X dX11_untell_0 rfl rfl ?_
  refine j_iconst (v := (0 : Int32)) X dX11_untell_1 (by decide) ?_
  refine j_iconst (v := (1 : Int32)) X dX11_untell_2 (by decide) ?_
  obtain ⟨q1, g_q1, hf⟩ := ob_t hf
  refine j_callS X [] (c_X11_within E g_q1) rfl rfl rfl (ws' := (wX E h g μ)) rfl k_348 k_349 k_68 k_350 (⟨rfl, rfl⟩) hdS_X11_within ⟨Nat.le_of_ble_eq_true rfl, Nat.le_of_ble_eq_true rfl⟩ rfl (Nat.le_of_ble_eq_true rfl) rfl dX11_untell_3 ?_
  refine j_if_ne (tgt := 15) X dX11_untell_6 (by decide) (fun c_6 => ?_) (fun c_6 => ?_)
  · replace hf := (if_neg c_6).symm.trans hf
    refine j_aload_n X dX11_untell_15 rfl rfl ?_
    refine j_get (C := RX11) (T := TX11) (N := 10) X iX11 0 (wX_0 ..) rfl 0 (by decide) k_310 rfl rfl dX11_untell_16 ?_
    refine j_iload_n X dX11_untell_19 rfl rfl ?_
    obtain ⟨q2, g_q2, hf⟩ := ob_t hf
    obtain ⟨μ3, e_μ3, hf⟩ := bd_e hf
    refine j_callV X [1] 0 (c_X5_lawOf E (fun j => h (List.getD [1, 7, 11, 23, 2, 3] j 0)) (fun j => g (List.getD [] j 0)) g_q2) (cut_wX_wZ_1_7_11_c ..) rfl rfl (ws' := (wX E h g μ3)) (by rw [e_μ3]; exact cut_wX_wZ_1_7_11_w ..) (wZ_0 ..) rfl k_515 k_516 k_517 k_76 k_518 (⟨rfl, rfl⟩) hdV_X5_lawOf ⟨Nat.le_of_ble_eq_true rfl, Nat.le_of_ble_eq_true rfl⟩ rfl (Nat.le_of_ble_eq_true rfl) rfl dX11_untell_20 ?_
    by_cases n_20_0 : q2.2 = 1
    · replace hf := (if_pos n_20_0).symm.trans hf
      refine j_stk (st' := [.ref (h 7)]) (by rw [n_20_0]; rfl) ?_
      refine j_astore_n2 X dX11_untell_23 rfl (by decide) rfl ?_
      refine j_aload_n X dX11_untell_24 rfl rfl ?_
      obtain ⟨q4, g_q4, hf⟩ := ob_t hf
      obtain ⟨μ5, e_μ5, hf⟩ := bd_e hf
      refine j_callV X [7, 8, 9, 10] 0 (c_X1_isMissing E (fun j => h (List.getD [7, 8, 9, 10] j 0)) (fun j => g (List.getD [0] j 0)) g_q4) (cut_wX_wL_7_8_9_c ..) rfl rfl (ws' := (wX E h g μ5)) (by rw [e_μ5]; exact cut_wX_wL_7_8_9_w ..) (wL_0 ..) rfl k_580 k_388 k_389 k_77 k_390 (⟨rfl, rfl⟩) hdV_X1_isMissing ⟨Nat.le_of_ble_eq_true rfl, Nat.le_of_ble_eq_true rfl⟩ rfl (Nat.le_of_ble_eq_true rfl) rfl dX11_untell_25 ?_
      refine j_if_eq (tgt := 35) X dX11_untell_28 (by decide) (fun c_28 => ?_) (fun c_28 => ?_)
      · replace hf := (if_pos c_28).symm.trans hf
        refine j_iconst (v := (1 : Int32)) X dX11_untell_35 (by decide) ?_
        refine j_istore_n3 X dX11_untell_36 rfl (by decide) rfl ?_
        refine j_aload_n X dX11_untell_37 rfl rfl ?_
        obtain ⟨q6, g_q6, hf⟩ := ob_t hf
        obtain ⟨μ7, e_μ7, hf⟩ := bd_e hf
        refine j_callV X [7, 8, 9, 10] 0 (c_X1_forget E (fun j => h (List.getD [7, 8, 9, 10] j 0)) (fun j => g (List.getD [0] j 0)) g_q6) (cut_wX_wL_7_8_9_c ..) rfl rfl (ws' := (wX E h g μ7)) (by rw [e_μ7]; exact cut_wX_wL_7_8_9_w ..) (wL_0 ..) rfl k_581 k_582 k_583 k_77 k_584 (⟨rfl, rfl⟩) hdV_X1_forget ⟨Nat.le_of_ble_eq_true rfl, Nat.le_of_ble_eq_true rfl⟩ rfl (Nat.le_of_ble_eq_true rfl) rfl dX11_untell_38 ?_
        refine j_iload_n X dX11_untell_41 rfl rfl ?_
        obtain rfl := Option.some.inj hf
        exact j_iret X hr hlk rfl dX11_untell_42 hQ
      · replace hf := (if_neg c_28).symm.trans hf
        refine j_iconst (v := (0 : Int32)) X dX11_untell_31 (by decide) ?_
        refine j_goto (tgt := 36) X dX11_untell_32 (by decide) ?_
        refine j_istore_n3 X dX11_untell_36 rfl (by decide) rfl ?_
        refine j_aload_n X dX11_untell_37 rfl rfl ?_
        obtain ⟨q8, g_q8, hf⟩ := ob_t hf
        obtain ⟨μ9, e_μ9, hf⟩ := bd_e hf
        refine j_callV X [7, 8, 9, 10] 0 (c_X1_forget E (fun j => h (List.getD [7, 8, 9, 10] j 0)) (fun j => g (List.getD [0] j 0)) g_q8) (cut_wX_wL_7_8_9_c ..) rfl rfl (ws' := (wX E h g μ9)) (by rw [e_μ9]; exact cut_wX_wL_7_8_9_w ..) (wL_0 ..) rfl k_581 k_582 k_583 k_77 k_584 (⟨rfl, rfl⟩) hdV_X1_forget ⟨Nat.le_of_ble_eq_true rfl, Nat.le_of_ble_eq_true rfl⟩ rfl (Nat.le_of_ble_eq_true rfl) rfl dX11_untell_38 ?_
        refine j_iload_n X dX11_untell_41 rfl rfl ?_
        obtain rfl := Option.some.inj hf
        exact j_iret X hr hlk rfl dX11_untell_42 hQ
    · replace hf := (if_neg n_20_0).symm.trans hf
      by_cases n_20_1 : q2.2 = 2
      · replace hf := (if_pos n_20_1).symm.trans hf
        refine j_stk (st' := [.ref (h 11)]) (by rw [n_20_1]; rfl) ?_
        refine j_astore_n2 X dX11_untell_23 rfl (by decide) rfl ?_
        refine j_aload_n X dX11_untell_24 rfl rfl ?_
        obtain ⟨q10, g_q10, hf⟩ := ob_t hf
        obtain ⟨μ11, e_μ11, hf⟩ := bd_e hf
        refine j_callV X [11, 12, 13, 14] 0 (c_X1_isMissing E (fun j => h (List.getD [11, 12, 13, 14] j 0)) (fun j => g (List.getD [1] j 0)) g_q10) (cut_wX_wL_11_12_13_c ..) rfl rfl (ws' := (wX E h g μ11)) (by rw [e_μ11]; exact cut_wX_wL_11_12_13_w ..) (wL_0 ..) rfl k_580 k_388 k_389 k_77 k_390 (⟨rfl, rfl⟩) hdV_X1_isMissing ⟨Nat.le_of_ble_eq_true rfl, Nat.le_of_ble_eq_true rfl⟩ rfl (Nat.le_of_ble_eq_true rfl) rfl dX11_untell_25 ?_
        refine j_if_eq (tgt := 35) X dX11_untell_28 (by decide) (fun c_28 => ?_) (fun c_28 => ?_)
        · replace hf := (if_pos c_28).symm.trans hf
          refine j_iconst (v := (1 : Int32)) X dX11_untell_35 (by decide) ?_
          refine j_istore_n3 X dX11_untell_36 rfl (by decide) rfl ?_
          refine j_aload_n X dX11_untell_37 rfl rfl ?_
          obtain ⟨q12, g_q12, hf⟩ := ob_t hf
          obtain ⟨μ13, e_μ13, hf⟩ := bd_e hf
          refine j_callV X [11, 12, 13, 14] 0 (c_X1_forget E (fun j => h (List.getD [11, 12, 13, 14] j 0)) (fun j => g (List.getD [1] j 0)) g_q12) (cut_wX_wL_11_12_13_c ..) rfl rfl (ws' := (wX E h g μ13)) (by rw [e_μ13]; exact cut_wX_wL_11_12_13_w ..) (wL_0 ..) rfl k_581 k_582 k_583 k_77 k_584 (⟨rfl, rfl⟩) hdV_X1_forget ⟨Nat.le_of_ble_eq_true rfl, Nat.le_of_ble_eq_true rfl⟩ rfl (Nat.le_of_ble_eq_true rfl) rfl dX11_untell_38 ?_
          refine j_iload_n X dX11_untell_41 rfl rfl ?_
          obtain rfl := Option.some.inj hf
          exact j_iret X hr hlk rfl dX11_untell_42 hQ
        · replace hf := (if_neg c_28).symm.trans hf
          refine j_iconst (v := (0 : Int32)) X dX11_untell_31 (by decide) ?_
          refine j_goto (tgt := 36) X dX11_untell_32 (by decide) ?_
          refine j_istore_n3 X dX11_untell_36 rfl (by decide) rfl ?_
          refine j_aload_n X dX11_untell_37 rfl rfl ?_
          obtain ⟨q14, g_q14, hf⟩ := ob_t hf
          obtain ⟨μ15, e_μ15, hf⟩ := bd_e hf
          refine j_callV X [11, 12, 13, 14] 0 (c_X1_forget E (fun j => h (List.getD [11, 12, 13, 14] j 0)) (fun j => g (List.getD [1] j 0)) g_q14) (cut_wX_wL_11_12_13_c ..) rfl rfl (ws' := (wX E h g μ15)) (by rw [e_μ15]; exact cut_wX_wL_11_12_13_w ..) (wL_0 ..) rfl k_581 k_582 k_583 k_77 k_584 (⟨rfl, rfl⟩) hdV_X1_forget ⟨Nat.le_of_ble_eq_true rfl, Nat.le_of_ble_eq_true rfl⟩ rfl (Nat.le_of_ble_eq_true rfl) rfl dX11_untell_38 ?_
          refine j_iload_n X dX11_untell_41 rfl rfl ?_
          obtain rfl := Option.some.inj hf
          exact j_iret X hr hlk rfl dX11_untell_42 hQ
      · replace hf := (if_neg n_20_1).symm.trans hf
        cases hf
  · replace hf := (if_pos c_6).symm.trans hf
    refine j_aload_n X dX11_untell_9 rfl rfl ?_
    refine j_iconst (v := (1 : Int32)) X dX11_untell_10 (by decide) ?_
    obtain ⟨q16, g_q16, hf⟩ := ob_t hf
    refine j_callV X [0, 1, 2, 3, 4, 5, 6, 7, 8, 9, 10, 11, 12, 13, 14, 15, 16, 17, 18, 19, 20, 21, 22, 23, 24, 25, 26, 27, 28, 29, 30, 31, 32, 33, 34, 35, 36, 37, 38, 39, 40, 41, 42, 43, 44, 45, 46, 47, 48, 49, 50, 51, 52, 53, 54, 55, 56, 57, 58, 59, 60, 61, 62, 63, 64, 65, 66, 67, 68, 69, 70, 71, 72, 73, 74, 75, 76, 77, 78, 79, 80, 81, 82, 83, 84] 0 (c_X11_fails E h g g_q16) (cut_wX_wX_c ..) rfl rfl (ws' := (wX E h g q16.1)) (cut_wX_wX_w ..) (wX_0 ..) rfl k_351 k_353 k_0 k_68 k_354 (⟨rfl, rfl⟩) hdV_X11_fails ⟨Nat.le_of_ble_eq_true rfl, Nat.le_of_ble_eq_true rfl⟩ rfl (Nat.le_of_ble_eq_true rfl) rfl dX11_untell_11 ?_
    obtain rfl := Option.some.inj hf
    exact j_iret X hr hlk rfl dX11_untell_14 hQ
