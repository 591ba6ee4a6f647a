def nu_0 : Mem := fun a => if a = 1 then upd (upd (fun _ => 0) (1 : Int32).toNatClampNeg (1 : Int32)) (4 : Int32).toNatClampNeg (1 : Int32) else fun _ => 0
def nu_1 : Mem := upA nu_0 1 (upd (nu_0 1) (8 + 5 * 0 + 2) (0 : Int32))
def nu_2 : Mem := upA nu_1 1 (upd (nu_1 1) (8 + 5 * 0 + 3) (60 : Int32))
def nu_3 : Mem := upA nu_2 1 (upd (nu_2 1) (8 + 5 * 0 + 4) (-1 : Int32))
def nu_4 : Mem := upA nu_3 1 (upd (nu_3 1) (8 + 5 * 1 + 2) (1 : Int32))
def nu_5 : Mem := upA nu_4 1 (upd (nu_4 1) (8 + 5 * 1 + 3) (60 : Int32))
def nu_6 : Mem := upA nu_5 1 (upd (nu_5 1) (8 + 5 * 1 + 4) (-1 : Int32))
def nu_7 : Mem := upA nu_6 1 (upd (nu_6 1) (8 + 5 * 2 + 2) (2 : Int32))
def nu_8 : Mem := upA nu_7 1 (upd (nu_7 1) (8 + 5 * 2 + 3) (60 : Int32))
def nu_9 : Mem := upA nu_8 1 (upd (nu_8 1) (8 + 5 * 2 + 4) (-1 : Int32))
def nu_10 : Mem := upA nu_9 1 (upd (nu_9 1) (8 + 5 * 3 + 2) (3 : Int32))
def nu_11 : Mem := upA nu_10 1 (upd (nu_10 1) (8 + 5 * 3 + 3) (60 : Int32))
def nu_12 : Mem := upA nu_11 1 (upd (nu_11 1) (8 + 5 * 3 + 4) (-1 : Int32))
def nu_13 : Mem := upA nu_12 1 (upd (nu_12 1) (8 + 5 * 4 + 2) (4 : Int32))
def nu_14 : Mem := upA nu_13 1 (upd (nu_13 1) (8 + 5 * 4 + 3) (60 : Int32))
def nu_15 : Mem := upA nu_14 1 (upd (nu_14 1) (8 + 5 * 4 + 4) (-1 : Int32))
def nu_16 : Mem := upA nu_15 1 (upd (nu_15 1) (8 + 5 * 5 + 2) (5 : Int32))
def nu_17 : Mem := upA nu_16 1 (upd (nu_16 1) (8 + 5 * 5 + 3) (60 : Int32))
def nu_18 : Mem := upA nu_17 1 (upd (nu_17 1) (8 + 5 * 5 + 4) (-1 : Int32))
def nu_19 : Mem := upA nu_18 1 (upd (nu_18 1) (8 + 5 * 6 + 2) (6 : Int32))
def nu_20 : Mem := upA nu_19 1 (upd (nu_19 1) (8 + 5 * 6 + 3) (60 : Int32))
def nu_21 : Mem := upA nu_20 1 (upd (nu_20 1) (8 + 5 * 6 + 4) (-1 : Int32))
def nu_22 : Mem := upA nu_21 1 (upd (nu_21 1) (8 + 5 * 7 + 2) (7 : Int32))
def nu_23 : Mem := upA nu_22 1 (upd (nu_22 1) (8 + 5 * 7 + 3) (60 : Int32))
def nu_24 : Mem := upA nu_23 1 (upd (nu_23 1) (8 + 5 * 7 + 4) (-1 : Int32))
def nu_25 : Mem := upA nu_24 1 (upd (nu_24 1) (8 + 5 * 8 + 2) (8 : Int32))
def nu_26 : Mem := upA nu_25 1 (upd (nu_25 1) (8 + 5 * 8 + 3) (60 : Int32))
def nu_27 : Mem := upA nu_26 1 (upd (nu_26 1) (8 + 5 * 8 + 4) (-1 : Int32))
set_option maxHeartbeats 4000000 in
set_option maxRecDepth 100000 in
theorem ci_X12_init (E : Ev) (h0 : Nat) : CtN E yX12_init cX12_init 2 (rmN 1 13 1370 23) [(h0, .inr (12, [.null, .null, .null, .int 0, .null, .int 0, .int 0, .int 0, .int 0, .null, .null, .null, .null, .null, .int 0, .int 0, .int 0, .null, .null, .null, .null]))] (fun q => wM E (fun k => if k = 0 then h0 else q k) (fun _ => none) nu_27) [.ref h0] 13 1370 := by
  refine ctN_start RX12 1 (by decide) rfl rfl (Nat.le_of_ble_eq_true rfl) ?_
  intro p l e s m args below meth c A Q X F hin hr hlk hQ
  refine n_aload_n X dX12_init_0 rfl rfl ?_
  refine n_objInit X k_911 k_90 k_91 (Nat.le_of_ble_eq_true rfl) (Nat.le_of_ble_eq_true rfl) dX12_init_1 ?_
  refine n_aload_n X dX12_init_4 rfl rfl ?_
  refine n_sipush (v := (387 : Int32)) X dX12_init_5 (by decide) ?_
  refine n_newa X k_182 387 (by decide) (by decide) (by decide) (Nat.le_of_ble_eq_true rfl) (Nat.le_of_ble_eq_true rfl) dX12_init_8 (ws' := fun a1 => [(h0, .inr (12, [.null, .null, .null, .int 0, .null, .int 0, .int 0, .int 0, .int 0, .null, .null, .null, .null, .null, .int 0, .int 0, .int 0, .null, .null, .null, .null])), (a1, .inl (E.2 0, 387, .inl (fun _ => 0)))]) (fun _ => rfl) (fun a1 => ?_)
  refine n_putF X hin (C := RX12) (T := TX12) (N := 21) iX12 0 rfl rfl 0 (by decide) k_916 rfl tyX12 tyX12_ok nmX12 rfl rfl (ty := (.array .int)) (by decide +kernel) rfl rfl (Nat.le_of_ble_eq_true rfl) dX12_init_10 (ws' := [(h0, .inr (12, [.ref a1, .null, .null, .int 0, .null, .int 0, .int 0, .int 0, .int 0, .null, .null, .null, .null, .null, .int 0, .int 0, .int 0, .null, .null, .null, .null])), (a1, .inl (E.2 0, 387, .inl (fun _ => 0)))]) rfl ?_
  refine n_aload_n X dX12_init_13 rfl rfl ?_
  refine n_sipush (v := (387 : Int32)) X dX12_init_14 (by decide) ?_
  refine n_newa X k_182 387 (by decide) (by decide) (by decide) (Nat.le_of_ble_eq_true rfl) (Nat.le_of_ble_eq_true rfl) dX12_init_17 (ws' := fun a2 => [(h0, .inr (12, [.ref a1, .null, .null, .int 0, .null, .int 0, .int 0, .int 0, .int 0, .null, .null, .null, .null, .null, .int 0, .int 0, .int 0, .null, .null, .null, .null])), (a1, .inl (E.2 0, 387, .inl (fun _ => 0))), (a2, .inl (E.2 0, 387, .inl (fun _ => 0)))]) (fun _ => rfl) (fun a2 => ?_)
  refine n_putF X hin (C := RX12) (T := TX12) (N := 21) iX12 0 rfl rfl 1 (by decide) k_917 rfl tyX12 tyX12_ok nmX12 rfl rfl (ty := (.array .int)) (by decide +kernel) rfl rfl (Nat.le_of_ble_eq_true rfl) dX12_init_19 (ws' := [(h0, .inr (12, [.ref a1, .ref a2, .null, .int 0, .null, .int 0, .int 0, .int 0, .int 0, .null, .null, .null, .null, .null, .int 0, .int 0, .int 0, .null, .null, .null, .null])), (a1, .inl (E.2 0, 387, .inl (fun _ => 0))), (a2, .inl (E.2 0, 387, .inl (fun _ => 0)))]) rfl ?_
  refine n_aload_n X dX12_init_22 rfl rfl ?_
  refine n_bipush (v := (106 : Int32)) X dX12_init_23 (by decide) ?_
  refine n_newa X k_182 106 (by decide) (by decide) (by decide) (Nat.le_of_ble_eq_true rfl) (Nat.le_of_ble_eq_true rfl) dX12_init_25 (ws' := fun a3 => [(h0, .inr (12, [.ref a1, .ref a2, .null, .int 0, .null, .int 0, .int 0, .int 0, .int 0, .null, .null, .null, .null, .null, .int 0, .int 0, .int 0, .null, .null, .null, .null])), (a1, .inl (E.2 0, 387, .inl (fun _ => 0))), (a2, .inl (E.2 0, 387, .inl (fun _ => 0))), (a3, .inl (E.2 0, 106, .inl (fun _ => 0)))]) (fun _ => rfl) (fun a3 => ?_)
  refine n_putF X hin (C := RX12) (T := TX12) (N := 21) iX12 0 rfl rfl 2 (by decide) k_918 rfl tyX12 tyX12_ok nmX12 rfl rfl (ty := (.array .int)) (by decide +kernel) rfl rfl (Nat.le_of_ble_eq_true rfl) dX12_init_27 (ws' := [(h0, .inr (12, [.ref a1, .ref a2, .ref a3, .int 0, .null, .int 0, .int 0, .int 0, .int 0, .null, .null, .null, .null, .null, .int 0, .int 0, .int 0, .null, .null, .null, .null])), (a1, .inl (E.2 0, 387, .inl (fun _ => 0))), (a2, .inl (E.2 0, 387, .inl (fun _ => 0))), (a3, .inl (E.2 0, 106, .inl (fun _ => 0)))]) rfl ?_
  refine n_aload_n X dX12_init_30 rfl rfl ?_
  refine n_bipush (v := (7 : Int32)) X dX12_init_31 (by decide) ?_
  refine n_newa X k_182 7 (by decide) (by decide) (by decide) (Nat.le_of_ble_eq_true rfl) (Nat.le_of_ble_eq_true rfl) dX12_init_33 (ws' := fun a4 => [(h0, .inr (12, [.ref a1, .ref a2, .ref a3, .int 0, .null, .int 0, .int 0, .int 0, .int 0, .null, .null, .null, .null, .null, .int 0, .int 0, .int 0, .null, .null, .null, .null])), (a1, .inl (E.2 0, 387, .inl (fun _ => 0))), (a2, .inl (E.2 0, 387, .inl (fun _ => 0))), (a3, .inl (E.2 0, 106, .inl (fun _ => 0))), (a4, .inl (E.2 0, 7, .inl (fun _ => 0)))]) (fun _ => rfl) (fun a4 => ?_)
  refine n_putF X hin (C := RX12) (T := TX12) (N := 21) iX12 0 rfl rfl 4 (by decide) k_920 rfl tyX12 tyX12_ok nmX12 rfl rfl (ty := (.array .int)) (by decide +kernel) rfl rfl (Nat.le_of_ble_eq_true rfl) dX12_init_35 (ws' := [(h0, .inr (12, [.ref a1, .ref a2, .ref a3, .int 0, .ref a4, .int 0, .int 0, .int 0, .int 0, .null, .null, .null, .null, .null, .int 0, .int 0, .int 0, .null, .null, .null, .null])), (a1, .inl (E.2 0, 387, .inl (fun _ => 0))), (a2, .inl (E.2 0, 387, .inl (fun _ => 0))), (a3, .inl (E.2 0, 106, .inl (fun _ => 0))), (a4, .inl (E.2 0, 7, .inl (fun _ => 0)))]) rfl ?_
  refine n_aload_n X dX12_init_38 rfl rfl ?_
  refine n_bipush (v := (124 : Int32)) X dX12_init_39 (by decide) ?_
  refine n_newa X k_182 124 (by decide) (by decide) (by decide) (Nat.le_of_ble_eq_true rfl) (Nat.le_of_ble_eq_true rfl) dX12_init_41 (ws' := fun a5 => [(h0, .inr (12, [.ref a1, .ref a2, .ref a3, .int 0, .ref a4, .int 0, .int 0, .int 0, .int 0, .null, .null, .null, .null, .null, .int 0, .int 0, .int 0, .null, .null, .null, .null])), (a1, .inl (E.2 0, 387, .inl (fun _ => 0))), (a2, .inl (E.2 0, 387, .inl (fun _ => 0))), (a3, .inl (E.2 0, 106, .inl (fun _ => 0))), (a4, .inl (E.2 0, 7, .inl (fun _ => 0))), (a5, .inl (E.2 0, 124, .inl (fun _ => 0)))]) (fun _ => rfl) (fun a5 => ?_)
  refine n_putF X hin (C := RX12) (T := TX12) (N := 21) iX12 0 rfl rfl 9 (by decide) k_925 rfl tyX12 tyX12_ok nmX12 rfl rfl (ty := (.array .int)) (by decide +kernel) rfl rfl (Nat.le_of_ble_eq_true rfl) dX12_init_43 (ws' := [(h0, .inr (12, [.ref a1, .ref a2, .ref a3, .int 0, .ref a4, .int 0, .int 0, .int 0, .int 0, .ref a5, .null, .null, .null, .null, .int 0, .int 0, .int 0, .null, .null, .null, .null])), (a1, .inl (E.2 0, 387, .inl (fun _ => 0))), (a2, .inl (E.2 0, 387, .inl (fun _ => 0))), (a3, .inl (E.2 0, 106, .inl (fun _ => 0))), (a4, .inl (E.2 0, 7, .inl (fun _ => 0))), (a5, .inl (E.2 0, 124, .inl (fun _ => 0)))]) rfl ?_
  refine n_aload_n X dX12_init_46 rfl rfl ?_
  refine n_sipush (v := (128 : Int32)) X dX12_init_47 (by decide) ?_
  refine n_newa X k_182 128 (by decide) (by decide) (by decide) (Nat.le_of_ble_eq_true rfl) (Nat.le_of_ble_eq_true rfl) dX12_init_50 (ws' := fun a6 => [(h0, .inr (12, [.ref a1, .ref a2, .ref a3, .int 0, .ref a4, .int 0, .int 0, .int 0, .int 0, .ref a5, .null, .null, .null, .null, .int 0, .int 0, .int 0, .null, .null, .null, .null])), (a1, .inl (E.2 0, 387, .inl (fun _ => 0))), (a2, .inl (E.2 0, 387, .inl (fun _ => 0))), (a3, .inl (E.2 0, 106, .inl (fun _ => 0))), (a4, .inl (E.2 0, 7, .inl (fun _ => 0))), (a5, .inl (E.2 0, 124, .inl (fun _ => 0))), (a6, .inl (E.2 0, 128, .inl (fun _ => 0)))]) (fun _ => rfl) (fun a6 => ?_)
  refine n_putF X hin (C := RX12) (T := TX12) (N := 21) iX12 0 rfl rfl 10 (by decide) k_926 rfl tyX12 tyX12_ok nmX12 rfl rfl (ty := (.array .int)) (by decide +kernel) rfl rfl (Nat.le_of_ble_eq_true rfl) dX12_init_52 (ws' := [(h0, .inr (12, [.ref a1, .ref a2, .ref a3, .int 0, .ref a4, .int 0, .int 0, .int 0, .int 0, .ref a5, .ref a6, .null, .null, .null, .int 0, .int 0, .int 0, .null, .null, .null, .null])), (a1, .inl (E.2 0, 387, .inl (fun _ => 0))), (a2, .inl (E.2 0, 387, .inl (fun _ => 0))), (a3, .inl (E.2 0, 106, .inl (fun _ => 0))), (a4, .inl (E.2 0, 7, .inl (fun _ => 0))), (a5, .inl (E.2 0, 124, .inl (fun _ => 0))), (a6, .inl (E.2 0, 128, .inl (fun _ => 0)))]) rfl ?_
  refine n_aload_n X dX12_init_55 rfl rfl ?_
  refine n_bipush (v := (64 : Int32)) X dX12_init_56 (by decide) ?_
  refine n_newa X k_182 64 (by decide) (by decide) (by decide) (Nat.le_of_ble_eq_true rfl) (Nat.le_of_ble_eq_true rfl) dX12_init_58 (ws' := fun a7 => [(h0, .inr (12, [.ref a1, .ref a2, .ref a3, .int 0, .ref a4, .int 0, .int 0, .int 0, .int 0, .ref a5, .ref a6, .null, .null, .null, .int 0, .int 0, .int 0, .null, .null, .null, .null])), (a1, .inl (E.2 0, 387, .inl (fun _ => 0))), (a2, .inl (E.2 0, 387, .inl (fun _ => 0))), (a3, .inl (E.2 0, 106, .inl (fun _ => 0))), (a4, .inl (E.2 0, 7, .inl (fun _ => 0))), (a5, .inl (E.2 0, 124, .inl (fun _ => 0))), (a6, .inl (E.2 0, 128, .inl (fun _ => 0))), (a7, .inl (E.2 0, 64, .inl (fun _ => 0)))]) (fun _ => rfl) (fun a7 => ?_)
  refine n_putF X hin (C := RX12) (T := TX12) (N := 21) iX12 0 rfl rfl 11 (by decide) k_927 rfl tyX12 tyX12_ok nmX12 rfl rfl (ty := (.array .int)) (by decide +kernel) rfl rfl (Nat.le_of_ble_eq_true rfl) dX12_init_60 (ws' := [(h0, .inr (12, [.ref a1, .ref a2, .ref a3, .int 0, .ref a4, .int 0, .int 0, .int 0, .int 0, .ref a5, .ref a6, .ref a7, .null, .null, .int 0, .int 0, .int 0, .null, .null, .null, .null])), (a1, .inl (E.2 0, 387, .inl (fun _ => 0))), (a2, .inl (E.2 0, 387, .inl (fun _ => 0))), (a3, .inl (E.2 0, 106, .inl (fun _ => 0))), (a4, .inl (E.2 0, 7, .inl (fun _ => 0))), (a5, .inl (E.2 0, 124, .inl (fun _ => 0))), (a6, .inl (E.2 0, 128, .inl (fun _ => 0))), (a7, .inl (E.2 0, 64, .inl (fun _ => 0)))]) rfl ?_
  refine n_aload_n X dX12_init_63 rfl rfl ?_
  refine n_bipush (v := (9 : Int32)) X dX12_init_64 (by decide) ?_
  refine n_newa X k_182 9 (by decide) (by decide) (by decide) (Nat.le_of_ble_eq_true rfl) (Nat.le_of_ble_eq_true rfl) dX12_init_66 (ws' := fun a8 => [(h0, .inr (12, [.ref a1, .ref a2, .ref a3, .int 0, .ref a4, .int 0, .int 0, .int 0, .int 0, .ref a5, .ref a6, .ref a7, .null, .null, .int 0, .int 0, .int 0, .null, .null, .null, .null])), (a1, .inl (E.2 0, 387, .inl (fun _ => 0))), (a2, .inl (E.2 0, 387, .inl (fun _ => 0))), (a3, .inl (E.2 0, 106, .inl (fun _ => 0))), (a4, .inl (E.2 0, 7, .inl (fun _ => 0))), (a5, .inl (E.2 0, 124, .inl (fun _ => 0))), (a6, .inl (E.2 0, 128, .inl (fun _ => 0))), (a7, .inl (E.2 0, 64, .inl (fun _ => 0))), (a8, .inl (E.2 0, 9, .inl (fun _ => 0)))]) (fun _ => rfl) (fun a8 => ?_)
  refine n_putF X hin (C := RX12) (T := TX12) (N := 21) iX12 0 rfl rfl 12 (by decide) k_928 rfl tyX12 tyX12_ok nmX12 rfl rfl (ty := (.array .int)) (by decide +kernel) rfl rfl (Nat.le_of_ble_eq_true rfl) dX12_init_68 (ws' := [(h0, .inr (12, [.ref a1, .ref a2, .ref a3, .int 0, .ref a4, .int 0, .int 0, .int 0, .int 0, .ref a5, .ref a6, .ref a7, .ref a8, .null, .int 0, .int 0, .int 0, .null, .null, .null, .null])), (a1, .inl (E.2 0, 387, .inl (fun _ => 0))), (a2, .inl (E.2 0, 387, .inl (fun _ => 0))), (a3, .inl (E.2 0, 106, .inl (fun _ => 0))), (a4, .inl (E.2 0, 7, .inl (fun _ => 0))), (a5, .inl (E.2 0, 124, .inl (fun _ => 0))), (a6, .inl (E.2 0, 128, .inl (fun _ => 0))), (a7, .inl (E.2 0, 64, .inl (fun _ => 0))), (a8, .inl (E.2 0, 9, .inl (fun _ => 0)))]) rfl ?_
  refine n_aload_n X dX12_init_71 rfl rfl ?_
  refine n_bipush (v := (30 : Int32)) X dX12_init_72 (by decide) ?_
  refine n_newa X k_182 30 (by decide) (by decide) (by decide) (Nat.le_of_ble_eq_true rfl) (Nat.le_of_ble_eq_true rfl) dX12_init_74 (ws' := fun a9 => [(h0, .inr (12, [.ref a1, .ref a2, .ref a3, .int 0, .ref a4, .int 0, .int 0, .int 0, .int 0, .ref a5, .ref a6, .ref a7, .ref a8, .null, .int 0, .int 0, .int 0, .null, .null, .null, .null])), (a1, .inl (E.2 0, 387, .inl (fun _ => 0))), (a2, .inl (E.2 0, 387, .inl (fun _ => 0))), (a3, .inl (E.2 0, 106, .inl (fun _ => 0))), (a4, .inl (E.2 0, 7, .inl (fun _ => 0))), (a5, .inl (E.2 0, 124, .inl (fun _ => 0))), (a6, .inl (E.2 0, 128, .inl (fun _ => 0))), (a7, .inl (E.2 0, 64, .inl (fun _ => 0))), (a8, .inl (E.2 0, 9, .inl (fun _ => 0))), (a9, .inl (E.2 0, 30, .inl (fun _ => 0)))]) (fun _ => rfl) (fun a9 => ?_)
  refine n_putF X hin (C := RX12) (T := TX12) (N := 21) iX12 0 rfl rfl 13 (by decide) k_929 rfl tyX12 tyX12_ok nmX12 rfl rfl (ty := (.array .int)) (by decide +kernel) rfl rfl (Nat.le_of_ble_eq_true rfl) dX12_init_76 (ws' := [(h0, .inr (12, [.ref a1, .ref a2, .ref a3, .int 0, .ref a4, .int 0, .int 0, .int 0, .int 0, .ref a5, .ref a6, .ref a7, .ref a8, .ref a9, .int 0, .int 0, .int 0, .null, .null, .null, .null])), (a1, .inl (E.2 0, 387, .inl (fun _ => 0))), (a2, .inl (E.2 0, 387, .inl (fun _ => 0))), (a3, .inl (E.2 0, 106, .inl (fun _ => 0))), (a4, .inl (E.2 0, 7, .inl (fun _ => 0))), (a5, .inl (E.2 0, 124, .inl (fun _ => 0))), (a6, .inl (E.2 0, 128, .inl (fun _ => 0))), (a7, .inl (E.2 0, 64, .inl (fun _ => 0))), (a8, .inl (E.2 0, 9, .inl (fun _ => 0))), (a9, .inl (E.2 0, 30, .inl (fun _ => 0)))]) rfl ?_
  refine n_aload_n X dX12_init_79 rfl rfl ?_
  refine n_iconst (v := (4 : Int32)) X dX12_init_80 (by decide) ?_
  refine n_newa X k_182 4 (by decide) (by decide) (by decide) (Nat.le_of_ble_eq_true rfl) (Nat.le_of_ble_eq_true rfl) dX12_init_81 (ws' := fun a10 => [(h0, .inr (12, [.ref a1, .ref a2, .ref a3, .int 0, .ref a4, .int 0, .int 0, .int 0, .int 0, .ref a5, .ref a6, .ref a7, .ref a8, .ref a9, .int 0, .int 0, .int 0, .null, .null, .null, .null])), (a1, .inl (E.2 0, 387, .inl (fun _ => 0))), (a2, .inl (E.2 0, 387, .inl (fun _ => 0))), (a3, .inl (E.2 0, 106, .inl (fun _ => 0))), (a4, .inl (E.2 0, 7, .inl (fun _ => 0))), (a5, .inl (E.2 0, 124, .inl (fun _ => 0))), (a6, .inl (E.2 0, 128, .inl (fun _ => 0))), (a7, .inl (E.2 0, 64, .inl (fun _ => 0))), (a8, .inl (E.2 0, 9, .inl (fun _ => 0))), (a9, .inl (E.2 0, 30, .inl (fun _ => 0))), (a10, .inl (E.2 0, 4, .inl (fun _ => 0)))]) (fun _ => rfl) (fun a10 => ?_)
  refine n_putF X hin (C := RX12) (T := TX12) (N := 21) iX12 0 rfl rfl 17 (by decide) k_933 rfl tyX12 tyX12_ok nmX12 rfl rfl (ty := (.array .int)) (by decide +kernel) rfl rfl (Nat.le_of_ble_eq_true rfl) dX12_init_83 (ws' := [(h0, .inr (12, [.ref a1, .ref a2, .ref a3, .int 0, .ref a4, .int 0, .int 0, .int 0, .int 0, .ref a5, .ref a6, .ref a7, .ref a8, .ref a9, .int 0, .int 0, .int 0, .ref a10, .null, .null, .null])), (a1, .inl (E.2 0, 387, .inl (fun _ => 0))), (a2, .inl (E.2 0, 387, .inl (fun _ => 0))), (a3, .inl (E.2 0, 106, .inl (fun _ => 0))), (a4, .inl (E.2 0, 7, .inl (fun _ => 0))), (a5, .inl (E.2 0, 124, .inl (fun _ => 0))), (a6, .inl (E.2 0, 128, .inl (fun _ => 0))), (a7, .inl (E.2 0, 64, .inl (fun _ => 0))), (a8, .inl (E.2 0, 9, .inl (fun _ => 0))), (a9, .inl (E.2 0, 30, .inl (fun _ => 0))), (a10, .inl (E.2 0, 4, .inl (fun _ => 0)))]) rfl ?_
  refine n_aload_n X dX12_init_86 rfl rfl ?_
  refine n_iconst (v := (4 : Int32)) X dX12_init_87 (by decide) ?_
  refine n_newa X k_182 4 (by decide) (by decide) (by decide) (Nat.le_of_ble_eq_true rfl) (Nat.le_of_ble_eq_true rfl) dX12_init_88 (ws' := fun a11 => [(h0, .inr (12, [.ref a1, .ref a2, .ref a3, .int 0, .ref a4, .int 0, .int 0, .int 0, .int 0, .ref a5, .ref a6, .ref a7, .ref a8, .ref a9, .int 0, .int 0, .int 0, .ref a10, .null, .null, .null])), (a1, .inl (E.2 0, 387, .inl (fun _ => 0))), (a2, .inl (E.2 0, 387, .inl (fun _ => 0))), (a3, .inl (E.2 0, 106, .inl (fun _ => 0))), (a4, .inl (E.2 0, 7, .inl (fun _ => 0))), (a5, .inl (E.2 0, 124, .inl (fun _ => 0))), (a6, .inl (E.2 0, 128, .inl (fun _ => 0))), (a7, .inl (E.2 0, 64, .inl (fun _ => 0))), (a8, .inl (E.2 0, 9, .inl (fun _ => 0))), (a9, .inl (E.2 0, 30, .inl (fun _ => 0))), (a10, .inl (E.2 0, 4, .inl (fun _ => 0))), (a11, .inl (E.2 0, 4, .inl (fun _ => 0)))]) (fun _ => rfl) (fun a11 => ?_)
  refine n_putF X hin (C := RX12) (T := TX12) (N := 21) iX12 0 rfl rfl 18 (by decide) k_934 rfl tyX12 tyX12_ok nmX12 rfl rfl (ty := (.array .int)) (by decide +kernel) rfl rfl (Nat.le_of_ble_eq_true rfl) dX12_init_90 (ws' := [(h0, .inr (12, [.ref a1, .ref a2, .ref a3, .int 0, .ref a4, .int 0, .int 0, .int 0, .int 0, .ref a5, .ref a6, .ref a7, .ref a8, .ref a9, .int 0, .int 0, .int 0, .ref a10, .ref a11, .null, .null])), (a1, .inl (E.2 0, 387, .inl (fun _ => 0))), (a2, .inl (E.2 0, 387, .inl (fun _ => 0))), (a3, .inl (E.2 0, 106, .inl (fun _ => 0))), (a4, .inl (E.2 0, 7, .inl (fun _ => 0))), (a5, .inl (E.2 0, 124, .inl (fun _ => 0))), (a6, .inl (E.2 0, 128, .inl (fun _ => 0))), (a7, .inl (E.2 0, 64, .inl (fun _ => 0))), (a8, .inl (E.2 0, 9, .inl (fun _ => 0))), (a9, .inl (E.2 0, 30, .inl (fun _ => 0))), (a10, .inl (E.2 0, 4, .inl (fun _ => 0))), (a11, .inl (E.2 0, 4, .inl (fun _ => 0)))]) rfl ?_
  refine n_aload_n X dX12_init_93 rfl rfl ?_
  refine n_bipush (v := (96 : Int32)) X dX12_init_94 (by decide) ?_
  refine n_newa X k_182 96 (by decide) (by decide) (by decide) (Nat.le_of_ble_eq_true rfl) (Nat.le_of_ble_eq_true rfl) dX12_init_96 (ws' := fun a12 => [(h0, .inr (12, [.ref a1, .ref a2, .ref a3, .int 0, .ref a4, .int 0, .int 0, .int 0, .int 0, .ref a5, .ref a6, .ref a7, .ref a8, .ref a9, .int 0, .int 0, .int 0, .ref a10, .ref a11, .null, .null])), (a1, .inl (E.2 0, 387, .inl (fun _ => 0))), (a2, .inl (E.2 0, 387, .inl (fun _ => 0))), (a3, .inl (E.2 0, 106, .inl (fun _ => 0))), (a4, .inl (E.2 0, 7, .inl (fun _ => 0))), (a5, .inl (E.2 0, 124, .inl (fun _ => 0))), (a6, .inl (E.2 0, 128, .inl (fun _ => 0))), (a7, .inl (E.2 0, 64, .inl (fun _ => 0))), (a8, .inl (E.2 0, 9, .inl (fun _ => 0))), (a9, .inl (E.2 0, 30, .inl (fun _ => 0))), (a10, .inl (E.2 0, 4, .inl (fun _ => 0))), (a11, .inl (E.2 0, 4, .inl (fun _ => 0))), (a12, .inl (E.2 0, 96, .inl (fun _ => 0)))]) (fun _ => rfl) (fun a12 => ?_)
  refine n_putF X hin (C := RX12) (T := TX12) (N := 21) iX12 0 rfl rfl 19 (by decide) k_935 rfl tyX12 tyX12_ok nmX12 rfl rfl (ty := (.array .int)) (by decide +kernel) rfl rfl (Nat.le_of_ble_eq_true rfl) dX12_init_98 (ws' := [(h0, .inr (12, [.ref a1, .ref a2, .ref a3, .int 0, .ref a4, .int 0, .int 0, .int 0, .int 0, .ref a5, .ref a6, .ref a7, .ref a8, .ref a9, .int 0, .int 0, .int 0, .ref a10, .ref a11, .ref a12, .null])), (a1, .inl (E.2 0, 387, .inl (fun _ => 0))), (a2, .inl (E.2 0, 387, .inl (fun _ => 0))), (a3, .inl (E.2 0, 106, .inl (fun _ => 0))), (a4, .inl (E.2 0, 7, .inl (fun _ => 0))), (a5, .inl (E.2 0, 124, .inl (fun _ => 0))), (a6, .inl (E.2 0, 128, .inl (fun _ => 0))), (a7, .inl (E.2 0, 64, .inl (fun _ => 0))), (a8, .inl (E.2 0, 9, .inl (fun _ => 0))), (a9, .inl (E.2 0, 30, .inl (fun _ => 0))), (a10, .inl (E.2 0, 4, .inl (fun _ => 0))), (a11, .inl (E.2 0, 4, .inl (fun _ => 0))), (a12, .inl (E.2 0, 96, .inl (fun _ => 0)))]) rfl ?_
  refine n_aload_n X dX12_init_101 rfl rfl ?_
  refine n_bipush (v := (24 : Int32)) X dX12_init_102 (by decide) ?_
  refine n_newa X k_182 24 (by decide) (by decide) (by decide) (Nat.le_of_ble_eq_true rfl) (Nat.le_of_ble_eq_true rfl) dX12_init_104 (ws' := fun a13 => [(h0, .inr (12, [.ref a1, .ref a2, .ref a3, .int 0, .ref a4, .int 0, .int 0, .int 0, .int 0, .ref a5, .ref a6, .ref a7, .ref a8, .ref a9, .int 0, .int 0, .int 0, .ref a10, .ref a11, .ref a12, .null])), (a1, .inl (E.2 0, 387, .inl (fun _ => 0))), (a2, .inl (E.2 0, 387, .inl (fun _ => 0))), (a3, .inl (E.2 0, 106, .inl (fun _ => 0))), (a4, .inl (E.2 0, 7, .inl (fun _ => 0))), (a5, .inl (E.2 0, 124, .inl (fun _ => 0))), (a6, .inl (E.2 0, 128, .inl (fun _ => 0))), (a7, .inl (E.2 0, 64, .inl (fun _ => 0))), (a8, .inl (E.2 0, 9, .inl (fun _ => 0))), (a9, .inl (E.2 0, 30, .inl (fun _ => 0))), (a10, .inl (E.2 0, 4, .inl (fun _ => 0))), (a11, .inl (E.2 0, 4, .inl (fun _ => 0))), (a12, .inl (E.2 0, 96, .inl (fun _ => 0))), (a13, .inl (E.2 0, 24, .inl (fun _ => 0)))]) (fun _ => rfl) (fun a13 => ?_)
  refine n_putF X hin (C := RX12) (T := TX12) (N := 21) iX12 0 rfl rfl 20 (by decide) k_936 rfl tyX12 tyX12_ok nmX12 rfl rfl (ty := (.array .int)) (by decide +kernel) rfl rfl (Nat.le_of_ble_eq_true rfl) dX12_init_106 (ws' := [(h0, .inr (12, [.ref a1, .ref a2, .ref a3, .int 0, .ref a4, .int 0, .int 0, .int 0, .int 0, .ref a5, .ref a6, .ref a7, .ref a8, .ref a9, .int 0, .int 0, .int 0, .ref a10, .ref a11, .ref a12, .ref a13])), (a1, .inl (E.2 0, 387, .inl (fun _ => 0))), (a2, .inl (E.2 0, 387, .inl (fun _ => 0))), (a3, .inl (E.2 0, 106, .inl (fun _ => 0))), (a4, .inl (E.2 0, 7, .inl (fun _ => 0))), (a5, .inl (E.2 0, 124, .inl (fun _ => 0))), (a6, .inl (E.2 0, 128, .inl (fun _ => 0))), (a7, .inl (E.2 0, 64, .inl (fun _ => 0))), (a8, .inl (E.2 0, 9, .inl (fun _ => 0))), (a9, .inl (E.2 0, 30, .inl (fun _ => 0))), (a10, .inl (E.2 0, 4, .inl (fun _ => 0))), (a11, .inl (E.2 0, 4, .inl (fun _ => 0))), (a12, .inl (E.2 0, 96, .inl (fun _ => 0))), (a13, .inl (E.2 0, 24, .inl (fun _ => 0)))]) rfl ?_
  refine n_aload_n X dX12_init_109 rfl rfl ?_
  refine n_get (C := RX12) (T := TX12) (N := 21) X iX12 0 rfl rfl 0 (by decide) k_916 rfl rfl dX12_init_110 ?_
  refine n_iconst (v := (1 : Int32)) X dX12_init_113 (by decide) ?_
  refine n_iconst (v := (1 : Int32)) X dX12_init_114 (by decide) ?_
  refine n_iast X 1 rfl (by unfold vp_in; decide) dX12_init_115 (ws' := [(h0, .inr (12, [.ref a1, .ref a2, .ref a3, .int 0, .ref a4, .int 0, .int 0, .int 0, .int 0, .ref a5, .ref a6, .ref a7, .ref a8, .ref a9, .int 0, .int 0, .int 0, .ref a10, .ref a11, .ref a12, .ref a13])), (a1, .inl (E.2 0, 387, .inl (upd (fun _ => 0) (1 : Int32).toNatClampNeg (1 : Int32)))), (a2, .inl (E.2 0, 387, .inl (fun _ => 0))), (a3, .inl (E.2 0, 106, .inl (fun _ => 0))), (a4, .inl (E.2 0, 7, .inl (fun _ => 0))), (a5, .inl (E.2 0, 124, .inl (fun _ => 0))), (a6, .inl (E.2 0, 128, .inl (fun _ => 0))), (a7, .inl (E.2 0, 64, .inl (fun _ => 0))), (a8, .inl (E.2 0, 9, .inl (fun _ => 0))), (a9, .inl (E.2 0, 30, .inl (fun _ => 0))), (a10, .inl (E.2 0, 4, .inl (fun _ => 0))), (a11, .inl (E.2 0, 4, .inl (fun _ => 0))), (a12, .inl (E.2 0, 96, .inl (fun _ => 0))), (a13, .inl (E.2 0, 24, .inl (fun _ => 0)))]) rfl ?_
  refine n_aload_n X dX12_init_116 rfl rfl ?_
  refine n_get (C := RX12) (T := TX12) (N := 21) X iX12 0 rfl rfl 0 (by decide) k_916 rfl rfl dX12_init_117 ?_
  refine n_iconst (v := (4 : Int32)) X dX12_init_120 (by decide) ?_
  refine n_iconst (v := (1 : Int32)) X dX12_init_121 (by decide) ?_
  refine n_iast X 1 rfl (by unfold vp_in; decide) dX12_init_122 (ws' := [(h0, .inr (12, [.ref a1, .ref a2, .ref a3, .int 0, .ref a4, .int 0, .int 0, .int 0, .int 0, .ref a5, .ref a6, .ref a7, .ref a8, .ref a9, .int 0, .int 0, .int 0, .ref a10, .ref a11, .ref a12, .ref a13])), (a1, .inl (E.2 0, 387, .inl (upd (upd (fun _ => 0) (1 : Int32).toNatClampNeg (1 : Int32)) (4 : Int32).toNatClampNeg (1 : Int32)))), (a2, .inl (E.2 0, 387, .inl (fun _ => 0))), (a3, .inl (E.2 0, 106, .inl (fun _ => 0))), (a4, .inl (E.2 0, 7, .inl (fun _ => 0))), (a5, .inl (E.2 0, 124, .inl (fun _ => 0))), (a6, .inl (E.2 0, 128, .inl (fun _ => 0))), (a7, .inl (E.2 0, 64, .inl (fun _ => 0))), (a8, .inl (E.2 0, 9, .inl (fun _ => 0))), (a9, .inl (E.2 0, 30, .inl (fun _ => 0))), (a10, .inl (E.2 0, 4, .inl (fun _ => 0))), (a11, .inl (E.2 0, 4, .inl (fun _ => 0))), (a12, .inl (E.2 0, 96, .inl (fun _ => 0))), (a13, .inl (E.2 0, 24, .inl (fun _ => 0)))]) rfl ?_
  refine n_iconst (v := (0 : Int32)) X dX12_init_123 (by decide) ?_
  refine n_istXn X dX12_init_124 rfl (by decide) rfl (lo' := [some (.ref h0), some (.int (0 : Int32))]) rfl ?_
  refine n_iload_n X dX12_init_125 rfl rfl ?_
  refine n_bipush (v := (9 : Int32)) X dX12_init_126 (by decide) ?_
  refine n_icmp_ge (tgt := 159) X dX12_init_128 (by decide) (fun c_9 => absurd c_9 (by decide)) (fun _ => ?_)
  refine n_aload_n X dX12_init_131 rfl rfl ?_
  refine n_iload_n X dX12_init_132 rfl rfl ?_
  refine n_iconst (v := (2 : Int32)) X dX12_init_133 (by decide) ?_
  refine n_iload_n X dX12_init_134 rfl rfl ?_
  refine n_world (ws' := wM E (fun k => if k = 0 then h0 else List.getD [h0, a1, a2, a3, a4, a5, a6, a7, a8, a9, a10, a11, a12, a13] k 0) (fun _ => none) nu_0) rfl ?_
  refine n_callV (n := 3) X [0, 1, 2, 3, 4, 5, 6, 7, 8, 9, 10, 11, 12, 13] 0 (c_X12_lays1 E (fun k => if k = 0 then h0 else List.getD [h0, a1, a2, a3, a4, a5, a6, a7, a8, a9, a10, a11, a12, a13] k 0) (fun _ => none) (lays1_ok nu_0 0 2 (0 : Int32) (by decide) (by decide))) (cut_wM_wM_c ..) rfl rfl (ws' := wM E (fun k => if k = 0 then h0 else List.getD [h0, a1, a2, a3, a4, a5, a6, a7, a8, a9, a10, a11, a12, a13] k 0) (fun _ => none) nu_1) (cut_wM_wM_w ..) (wM_0 ..) rfl k_912 k_914 k_23 k_80 k_915 ⟨rfl, rfl⟩ hdV_X12_lays1 ⟨Nat.le_of_ble_eq_true rfl, Nat.le_of_ble_eq_true rfl⟩ ⟨Nat.le_of_ble_eq_true rfl, Nat.le_of_ble_eq_true rfl⟩ rfl (Nat.le_of_ble_eq_true rfl) rfl dX12_init_135 ?_
  refine n_aload_n X dX12_init_138 rfl rfl ?_
  refine n_iload_n X dX12_init_139 rfl rfl ?_
  refine n_iconst (v := (3 : Int32)) X dX12_init_140 (by decide) ?_
  refine n_bipush (v := (60 : Int32)) X dX12_init_141 (by decide) ?_
  refine n_callV (n := 3) X [0, 1, 2, 3, 4, 5, 6, 7, 8, 9, 10, 11, 12, 13] 0 (c_X12_lays1 E (fun k => if k = 0 then h0 else List.getD [h0, a1, a2, a3, a4, a5, a6, a7, a8, a9, a10, a11, a12, a13] k 0) (fun _ => none) (lays1_ok nu_1 0 3 (60 : Int32) (by decide) (by decide))) (cut_wM_wM_c ..) rfl rfl (ws' := wM E (fun k => if k = 0 then h0 else List.getD [h0, a1, a2, a3, a4, a5, a6, a7, a8, a9, a10, a11, a12, a13] k 0) (fun _ => none) nu_2) (cut_wM_wM_w ..) (wM_0 ..) rfl k_912 k_914 k_23 k_80 k_915 ⟨rfl, rfl⟩ hdV_X12_lays1 ⟨Nat.le_of_ble_eq_true rfl, Nat.le_of_ble_eq_true rfl⟩ ⟨Nat.le_of_ble_eq_true rfl, Nat.le_of_ble_eq_true rfl⟩ rfl (Nat.le_of_ble_eq_true rfl) rfl dX12_init_143 ?_
  refine n_aload_n X dX12_init_146 rfl rfl ?_
  refine n_iload_n X dX12_init_147 rfl rfl ?_
  refine n_iconst (v := (4 : Int32)) X dX12_init_148 (by decide) ?_
  refine n_iconst (v := (-1 : Int32)) X dX12_init_149 (by decide) ?_
  refine n_callV (n := 3) X [0, 1, 2, 3, 4, 5, 6, 7, 8, 9, 10, 11, 12, 13] 0 (c_X12_lays1 E (fun k => if k = 0 then h0 else List.getD [h0, a1, a2, a3, a4, a5, a6, a7, a8, a9, a10, a11, a12, a13] k 0) (fun _ => none) (lays1_ok nu_2 0 4 (-1 : Int32) (by decide) (by decide))) (cut_wM_wM_c ..) rfl rfl (ws' := wM E (fun k => if k = 0 then h0 else List.getD [h0, a1, a2, a3, a4, a5, a6, a7, a8, a9, a10, a11, a12, a13] k 0) (fun _ => none) nu_3) (cut_wM_wM_w ..) (wM_0 ..) rfl k_912 k_914 k_23 k_80 k_915 ⟨rfl, rfl⟩ hdV_X12_lays1 ⟨Nat.le_of_ble_eq_true rfl, Nat.le_of_ble_eq_true rfl⟩ ⟨Nat.le_of_ble_eq_true rfl, Nat.le_of_ble_eq_true rfl⟩ rfl (Nat.le_of_ble_eq_true rfl) rfl dX12_init_150 ?_
  refine n_iincX (k := (1 : Int32)) (v := (1 : Int32)) X dX12_init_153 (by decide) (by decide) rfl (by decide) rfl (lo' := [some (.ref h0), some (.int (1 : Int32))]) rfl ?_
  refine n_goto (tgt := 125) X dX12_init_156 (by decide) ?_
  refine n_iload_n X dX12_init_125 rfl rfl ?_
  refine n_bipush (v := (9 : Int32)) X dX12_init_126 (by decide) ?_
  refine n_icmp_ge (tgt := 159) X dX12_init_128 (by decide) (fun c_9 => absurd c_9 (by decide)) (fun _ => ?_)
  refine n_aload_n X dX12_init_131 rfl rfl ?_
  refine n_iload_n X dX12_init_132 rfl rfl ?_
  refine n_iconst (v := (2 : Int32)) X dX12_init_133 (by decide) ?_
  refine n_iload_n X dX12_init_134 rfl rfl ?_
  refine n_callV (n := 3) X [0, 1, 2, 3, 4, 5, 6, 7, 8, 9, 10, 11, 12, 13] 0 (c_X12_lays1 E (fun k => if k = 0 then h0 else List.getD [h0, a1, a2, a3, a4, a5, a6, a7, a8, a9, a10, a11, a12, a13] k 0) (fun _ => none) (lays1_ok nu_3 1 2 (1 : Int32) (by decide) (by decide))) (cut_wM_wM_c ..) rfl rfl (ws' := wM E (fun k => if k = 0 then h0 else List.getD [h0, a1, a2, a3, a4, a5, a6, a7, a8, a9, a10, a11, a12, a13] k 0) (fun _ => none) nu_4) (cut_wM_wM_w ..) (wM_0 ..) rfl k_912 k_914 k_23 k_80 k_915 ⟨rfl, rfl⟩ hdV_X12_lays1 ⟨Nat.le_of_ble_eq_true rfl, Nat.le_of_ble_eq_true rfl⟩ ⟨Nat.le_of_ble_eq_true rfl, Nat.le_of_ble_eq_true rfl⟩ rfl (Nat.le_of_ble_eq_true rfl) rfl dX12_init_135 ?_
  refine n_aload_n X dX12_init_138 rfl rfl ?_
  refine n_iload_n X dX12_init_139 rfl rfl ?_
  refine n_iconst (v := (3 : Int32)) X dX12_init_140 (by decide) ?_
  refine n_bipush (v := (60 : Int32)) X dX12_init_141 (by decide) ?_
  refine n_callV (n := 3) X [0, 1, 2, 3, 4, 5, 6, 7, 8, 9, 10, 11, 12, 13] 0 (c_X12_lays1 E (fun k => if k = 0 then h0 else List.getD [h0, a1, a2, a3, a4, a5, a6, a7, a8, a9, a10, a11, a12, a13] k 0) (fun _ => none) (lays1_ok nu_4 1 3 (60 : Int32) (by decide) (by decide))) (cut_wM_wM_c ..) rfl rfl (ws' := wM E (fun k => if k = 0 then h0 else List.getD [h0, a1, a2, a3, a4, a5, a6, a7, a8, a9, a10, a11, a12, a13] k 0) (fun _ => none) nu_5) (cut_wM_wM_w ..) (wM_0 ..) rfl k_912 k_914 k_23 k_80 k_915 ⟨rfl, rfl⟩ hdV_X12_lays1 ⟨Nat.le_of_ble_eq_true rfl, Nat.le_of_ble_eq_true rfl⟩ ⟨Nat.le_of_ble_eq_true rfl, Nat.le_of_ble_eq_true rfl⟩ rfl (Nat.le_of_ble_eq_true rfl) rfl dX12_init_143 ?_
  refine n_aload_n X dX12_init_146 rfl rfl ?_
  refine n_iload_n X dX12_init_147 rfl rfl ?_
  refine n_iconst (v := (4 : Int32)) X dX12_init_148 (by decide) ?_
  refine n_iconst (v := (-1 : Int32)) X dX12_init_149 (by decide) ?_
  refine n_callV (n := 3) X [0, 1, 2, 3, 4, 5, 6, 7, 8, 9, 10, 11, 12, 13] 0 (c_X12_lays1 E (fun k => if k = 0 then h0 else List.getD [h0, a1, a2, a3, a4, a5, a6, a7, a8, a9, a10, a11, a12, a13] k 0) (fun _ => none) (lays1_ok nu_5 1 4 (-1 : Int32) (by decide) (by decide))) (cut_wM_wM_c ..) rfl rfl (ws' := wM E (fun k => if k = 0 then h0 else List.getD [h0, a1, a2, a3, a4, a5, a6, a7, a8, a9, a10, a11, a12, a13] k 0) (fun _ => none) nu_6) (cut_wM_wM_w ..) (wM_0 ..) rfl k_912 k_914 k_23 k_80 k_915 ⟨rfl, rfl⟩ hdV_X12_lays1 ⟨Nat.le_of_ble_eq_true rfl, Nat.le_of_ble_eq_true rfl⟩ ⟨Nat.le_of_ble_eq_true rfl, Nat.le_of_ble_eq_true rfl⟩ rfl (Nat.le_of_ble_eq_true rfl) rfl dX12_init_150 ?_
  refine n_iincX (k := (1 : Int32)) (v := (2 : Int32)) X dX12_init_153 (by decide) (by decide) rfl (by decide) rfl (lo' := [some (.ref h0), some (.int (2 : Int32))]) rfl ?_
  refine n_goto (tgt := 125) X dX12_init_156 (by decide) ?_
  refine n_iload_n X dX12_init_125 rfl rfl ?_
  refine n_bipush (v := (9 : Int32)) X dX12_init_126 (by decide) ?_
  refine n_icmp_ge (tgt := 159) X dX12_init_128 (by decide) (fun c_9 => absurd c_9 (by decide)) (fun _ => ?_)
  refine n_aload_n X dX12_init_131 rfl rfl ?_
  refine n_iload_n X dX12_init_132 rfl rfl ?_
  refine n_iconst (v := (2 : Int32)) X dX12_init_133 (by decide) ?_
  refine n_iload_n X dX12_init_134 rfl rfl ?_
  refine n_callV (n := 3) X [0, 1, 2, 3, 4, 5, 6, 7, 8, 9, 10, 11, 12, 13] 0 (c_X12_lays1 E (fun k => if k = 0 then h0 else List.getD [h0, a1, a2, a3, a4, a5, a6, a7, a8, a9, a10, a11, a12, a13] k 0) (fun _ => none) (lays1_ok nu_6 2 2 (2 : Int32) (by decide) (by decide))) (cut_wM_wM_c ..) rfl rfl (ws' := wM E (fun k => if k = 0 then h0 else List.getD [h0, a1, a2, a3, a4, a5, a6, a7, a8, a9, a10, a11, a12, a13] k 0) (fun _ => none) nu_7) (cut_wM_wM_w ..) (wM_0 ..) rfl k_912 k_914 k_23 k_80 k_915 ⟨rfl, rfl⟩ hdV_X12_lays1 ⟨Nat.le_of_ble_eq_true rfl, Nat.le_of_ble_eq_true rfl⟩ ⟨Nat.le_of_ble_eq_true rfl, Nat.le_of_ble_eq_true rfl⟩ rfl (Nat.le_of_ble_eq_true rfl) rfl dX12_init_135 ?_
  refine n_aload_n X dX12_init_138 rfl rfl ?_
  refine n_iload_n X dX12_init_139 rfl rfl ?_
  refine n_iconst (v := (3 : Int32)) X dX12_init_140 (by decide) ?_
  refine n_bipush (v := (60 : Int32)) X dX12_init_141 (by decide) ?_
  refine n_callV (n := 3) X [0, 1, 2, 3, 4, 5, 6, 7, 8, 9, 10, 11, 12, 13] 0 (c_X12_lays1 E (fun k => if k = 0 then h0 else List.getD [h0, a1, a2, a3, a4, a5, a6, a7, a8, a9, a10, a11, a12, a13] k 0) (fun _ => none) (lays1_ok nu_7 2 3 (60 : Int32) (by decide) (by decide))) (cut_wM_wM_c ..) rfl rfl (ws' := wM E (fun k => if k = 0 then h0 else List.getD [h0, a1, a2, a3, a4, a5, a6, a7, a8, a9, a10, a11, a12, a13] k 0) (fun _ => none) nu_8) (cut_wM_wM_w ..) (wM_0 ..) rfl k_912 k_914 k_23 k_80 k_915 ⟨rfl, rfl⟩ hdV_X12_lays1 ⟨Nat.le_of_ble_eq_true rfl, Nat.le_of_ble_eq_true rfl⟩ ⟨Nat.le_of_ble_eq_true rfl, Nat.le_of_ble_eq_true rfl⟩ rfl (Nat.le_of_ble_eq_true rfl) rfl dX12_init_143 ?_
  refine n_aload_n X dX12_init_146 rfl rfl ?_
  refine n_iload_n X dX12_init_147 rfl rfl ?_
  refine n_iconst (v := (4 : Int32)) X dX12_init_148 (by decide) ?_
  refine n_iconst (v := (-1 : Int32)) X dX12_init_149 (by decide) ?_
  refine n_callV (n := 3) X [0, 1, 2, 3, 4, 5, 6, 7, 8, 9, 10, 11, 12, 13] 0 (c_X12_lays1 E (fun k => if k = 0 then h0 else List.getD [h0, a1, a2, a3, a4, a5, a6, a7, a8, a9, a10, a11, a12, a13] k 0) (fun _ => none) (lays1_ok nu_8 2 4 (-1 : Int32) (by decide) (by decide))) (cut_wM_wM_c ..) rfl rfl (ws' := wM E (fun k => if k = 0 then h0 else List.getD [h0, a1, a2, a3, a4, a5, a6, a7, a8, a9, a10, a11, a12, a13] k 0) (fun _ => none) nu_9) (cut_wM_wM_w ..) (wM_0 ..) rfl k_912 k_914 k_23 k_80 k_915 ⟨rfl, rfl⟩ hdV_X12_lays1 ⟨Nat.le_of_ble_eq_true rfl, Nat.le_of_ble_eq_true rfl⟩ ⟨Nat.le_of_ble_eq_true rfl, Nat.le_of_ble_eq_true rfl⟩ rfl (Nat.le_of_ble_eq_true rfl) rfl dX12_init_150 ?_
  refine n_iincX (k := (1 : Int32)) (v := (3 : Int32)) X dX12_init_153 (by decide) (by decide) rfl (by decide) rfl (lo' := [some (.ref h0), some (.int (3 : Int32))]) rfl ?_
  refine n_goto (tgt := 125) X dX12_init_156 (by decide) ?_
  refine n_iload_n X dX12_init_125 rfl rfl ?_
  refine n_bipush (v := (9 : Int32)) X dX12_init_126 (by decide) ?_
  refine n_icmp_ge (tgt := 159) X dX12_init_128 (by decide) (fun c_9 => absurd c_9 (by decide)) (fun _ => ?_)
  refine n_aload_n X dX12_init_131 rfl rfl ?_
  refine n_iload_n X dX12_init_132 rfl rfl ?_
  refine n_iconst (v := (2 : Int32)) X dX12_init_133 (by decide) ?_
  refine n_iload_n X dX12_init_134 rfl rfl ?_
  refine n_callV (n := 3) X [0, 1, 2, 3, 4, 5, 6, 7, 8, 9, 10, 11, 12, 13] 0 (c_X12_lays1 E (fun k => if k = 0 then h0 else List.getD [h0, a1, a2, a3, a4, a5, a6, a7, a8, a9, a10, a11, a12, a13] k 0) (fun _ => none) (lays1_ok nu_9 3 2 (3 : Int32) (by decide) (by decide))) (cut_wM_wM_c ..) rfl rfl (ws' := wM E (fun k => if k = 0 then h0 else List.getD [h0, a1, a2, a3, a4, a5, a6, a7, a8, a9, a10, a11, a12, a13] k 0) (fun _ => none) nu_10) (cut_wM_wM_w ..) (wM_0 ..) rfl k_912 k_914 k_23 k_80 k_915 ⟨rfl, rfl⟩ hdV_X12_lays1 ⟨Nat.le_of_ble_eq_true rfl, Nat.le_of_ble_eq_true rfl⟩ ⟨Nat.le_of_ble_eq_true rfl, Nat.le_of_ble_eq_true rfl⟩ rfl (Nat.le_of_ble_eq_true rfl) rfl dX12_init_135 ?_
  refine n_aload_n X dX12_init_138 rfl rfl ?_
  refine n_iload_n X dX12_init_139 rfl rfl ?_
  refine n_iconst (v := (3 : Int32)) X dX12_init_140 (by decide) ?_
  refine n_bipush (v := (60 : Int32)) X dX12_init_141 (by decide) ?_
  refine n_callV (n := 3) X [0, 1, 2, 3, 4, 5, 6, 7, 8, 9, 10, 11, 12, 13] 0 (c_X12_lays1 E (fun k => if k = 0 then h0 else List.getD [h0, a1, a2, a3, a4, a5, a6, a7, a8, a9, a10, a11, a12, a13] k 0) (fun _ => none) (lays1_ok nu_10 3 3 (60 : Int32) (by decide) (by decide))) (cut_wM_wM_c ..) rfl rfl (ws' := wM E (fun k => if k = 0 then h0 else List.getD [h0, a1, a2, a3, a4, a5, a6, a7, a8, a9, a10, a11, a12, a13] k 0) (fun _ => none) nu_11) (cut_wM_wM_w ..) (wM_0 ..) rfl k_912 k_914 k_23 k_80 k_915 ⟨rfl, rfl⟩ hdV_X12_lays1 ⟨Nat.le_of_ble_eq_true rfl, Nat.le_of_ble_eq_true rfl⟩ ⟨Nat.le_of_ble_eq_true rfl, Nat.le_of_ble_eq_true rfl⟩ rfl (Nat.le_of_ble_eq_true rfl) rfl dX12_init_143 ?_
  refine n_aload_n X dX12_init_146 rfl rfl ?_
  refine n_iload_n X dX12_init_147 rfl rfl ?_
  refine n_iconst (v := (4 : Int32)) X dX12_init_148 (by decide) ?_
  refine n_iconst (v := (-1 : Int32)) X dX12_init_149 (by decide) ?_
  refine n_callV (n := 3) X [0, 1, 2, 3, 4, 5, 6, 7, 8, 9, 10, 11, 12, 13] 0 (c_X12_lays1 E (fun k => if k = 0 then h0 else List.getD [h0, a1, a2, a3, a4, a5, a6, a7, a8, a9, a10, a11, a12, a13] k 0) (fun _ => none) (lays1_ok nu_11 3 4 (-1 : Int32) (by decide) (by decide))) (cut_wM_wM_c ..) rfl rfl (ws' := wM E (fun k => if k = 0 then h0 else List.getD [h0, a1, a2, a3, a4, a5, a6, a7, a8, a9, a10, a11, a12, a13] k 0) (fun _ => none) nu_12) (cut_wM_wM_w ..) (wM_0 ..) rfl k_912 k_914 k_23 k_80 k_915 ⟨rfl, rfl⟩ hdV_X12_lays1 ⟨Nat.le_of_ble_eq_true rfl, Nat.le_of_ble_eq_true rfl⟩ ⟨Nat.le_of_ble_eq_true rfl, Nat.le_of_ble_eq_true rfl⟩ rfl (Nat.le_of_ble_eq_true rfl) rfl dX12_init_150 ?_
  refine n_iincX (k := (1 : Int32)) (v := (4 : Int32)) X dX12_init_153 (by decide) (by decide) rfl (by decide) rfl (lo' := [some (.ref h0), some (.int (4 : Int32))]) rfl ?_
  refine n_goto (tgt := 125) X dX12_init_156 (by decide) ?_
  refine n_iload_n X dX12_init_125 rfl rfl ?_
  refine n_bipush (v := (9 : Int32)) X dX12_init_126 (by decide) ?_
  refine n_icmp_ge (tgt := 159) X dX12_init_128 (by decide) (fun c_9 => absurd c_9 (by decide)) (fun _ => ?_)
  refine n_aload_n X dX12_init_131 rfl rfl ?_
  refine n_iload_n X dX12_init_132 rfl rfl ?_
  refine n_iconst (v := (2 : Int32)) X dX12_init_133 (by decide) ?_
  refine n_iload_n X dX12_init_134 rfl rfl ?_
  refine n_callV (n := 3) X [0, 1, 2, 3, 4, 5, 6, 7, 8, 9, 10, 11, 12, 13] 0 (c_X12_lays1 E (fun k => if k = 0 then h0 else List.getD [h0, a1, a2, a3, a4, a5, a6, a7, a8, a9, a10, a11, a12, a13] k 0) (fun _ => none) (lays1_ok nu_12 4 2 (4 : Int32) (by decide) (by decide))) (cut_wM_wM_c ..) rfl rfl (ws' := wM E (fun k => if k = 0 then h0 else List.getD [h0, a1, a2, a3, a4, a5, a6, a7, a8, a9, a10, a11, a12, a13] k 0) (fun _ => none) nu_13) (cut_wM_wM_w ..) (wM_0 ..) rfl k_912 k_914 k_23 k_80 k_915 ⟨rfl, rfl⟩ hdV_X12_lays1 ⟨Nat.le_of_ble_eq_true rfl, Nat.le_of_ble_eq_true rfl⟩ ⟨Nat.le_of_ble_eq_true rfl, Nat.le_of_ble_eq_true rfl⟩ rfl (Nat.le_of_ble_eq_true rfl) rfl dX12_init_135 ?_
  refine n_aload_n X dX12_init_138 rfl rfl ?_
  refine n_iload_n X dX12_init_139 rfl rfl ?_
  refine n_iconst (v := (3 : Int32)) X dX12_init_140 (by decide) ?_
  refine n_bipush (v := (60 : Int32)) X dX12_init_141 (by decide) ?_
  refine n_callV (n := 3) X [0, 1, 2, 3, 4, 5, 6, 7, 8, 9, 10, 11, 12, 13] 0 (c_X12_lays1 E (fun k => if k = 0 then h0 else List.getD [h0, a1, a2, a3, a4, a5, a6, a7, a8, a9, a10, a11, a12, a13] k 0) (fun _ => none) (lays1_ok nu_13 4 3 (60 : Int32) (by decide) (by decide))) (cut_wM_wM_c ..) rfl rfl (ws' := wM E (fun k => if k = 0 then h0 else List.getD [h0, a1, a2, a3, a4, a5, a6, a7, a8, a9, a10, a11, a12, a13] k 0) (fun _ => none) nu_14) (cut_wM_wM_w ..) (wM_0 ..) rfl k_912 k_914 k_23 k_80 k_915 ⟨rfl, rfl⟩ hdV_X12_lays1 ⟨Nat.le_of_ble_eq_true rfl, Nat.le_of_ble_eq_true rfl⟩ ⟨Nat.le_of_ble_eq_true rfl, Nat.le_of_ble_eq_true rfl⟩ rfl (Nat.le_of_ble_eq_true rfl) rfl dX12_init_143 ?_
  refine n_aload_n X dX12_init_146 rfl rfl ?_
  refine n_iload_n X dX12_init_147 rfl rfl ?_
  refine n_iconst (v := (4 : Int32)) X dX12_init_148 (by decide) ?_
  refine n_iconst (v := (-1 : Int32)) X dX12_init_149 (by decide) ?_
  refine n_callV (n := 3) X [0, 1, 2, 3, 4, 5, 6, 7, 8, 9, 10, 11, 12, 13] 0 (c_X12_lays1 E (fun k => if k = 0 then h0 else List.getD [h0, a1, a2, a3, a4, a5, a6, a7, a8, a9, a10, a11, a12, a13] k 0) (fun _ => none) (lays1_ok nu_14 4 4 (-1 : Int32) (by decide) (by decide))) (cut_wM_wM_c ..) rfl rfl (ws' := wM E (fun k => if k = 0 then h0 else List.getD [h0, a1, a2, a3, a4, a5, a6, a7, a8, a9, a10, a11, a12, a13] k 0) (fun _ => none) nu_15) (cut_wM_wM_w ..) (wM_0 ..) rfl k_912 k_914 k_23 k_80 k_915 ⟨rfl, rfl⟩ hdV_X12_lays1 ⟨Nat.le_of_ble_eq_true rfl, Nat.le_of_ble_eq_true rfl⟩ ⟨Nat.le_of_ble_eq_true rfl, Nat.le_of_ble_eq_true rfl⟩ rfl (Nat.le_of_ble_eq_true rfl) rfl dX12_init_150 ?_
  refine n_iincX (k := (1 : Int32)) (v := (5 : Int32)) X dX12_init_153 (by decide) (by decide) rfl (by decide) rfl (lo' := [some (.ref h0), some (.int (5 : Int32))]) rfl ?_
  refine n_goto (tgt := 125) X dX12_init_156 (by decide) ?_
  refine n_iload_n X dX12_init_125 rfl rfl ?_
  refine n_bipush (v := (9 : Int32)) X dX12_init_126 (by decide) ?_
  refine n_icmp_ge (tgt := 159) X dX12_init_128 (by decide) (fun c_9 => absurd c_9 (by decide)) (fun _ => ?_)
  refine n_aload_n X dX12_init_131 rfl rfl ?_
  refine n_iload_n X dX12_init_132 rfl rfl ?_
  refine n_iconst (v := (2 : Int32)) X dX12_init_133 (by decide) ?_
  refine n_iload_n X dX12_init_134 rfl rfl ?_
  refine n_callV (n := 3) X [0, 1, 2, 3, 4, 5, 6, 7, 8, 9, 10, 11, 12, 13] 0 (c_X12_lays1 E (fun k => if k = 0 then h0 else List.getD [h0, a1, a2, a3, a4, a5, a6, a7, a8, a9, a10, a11, a12, a13] k 0) (fun _ => none) (lays1_ok nu_15 5 2 (5 : Int32) (by decide) (by decide))) (cut_wM_wM_c ..) rfl rfl (ws' := wM E (fun k => if k = 0 then h0 else List.getD [h0, a1, a2, a3, a4, a5, a6, a7, a8, a9, a10, a11, a12, a13] k 0) (fun _ => none) nu_16) (cut_wM_wM_w ..) (wM_0 ..) rfl k_912 k_914 k_23 k_80 k_915 ⟨rfl, rfl⟩ hdV_X12_lays1 ⟨Nat.le_of_ble_eq_true rfl, Nat.le_of_ble_eq_true rfl⟩ ⟨Nat.le_of_ble_eq_true rfl, Nat.le_of_ble_eq_true rfl⟩ rfl (Nat.le_of_ble_eq_true rfl) rfl dX12_init_135 ?_
  refine n_aload_n X dX12_init_138 rfl rfl ?_
  refine n_iload_n X dX12_init_139 rfl rfl ?_
  refine n_iconst (v := (3 : Int32)) X dX12_init_140 (by decide) ?_
  refine n_bipush (v := (60 : Int32)) X dX12_init_141 (by decide) ?_
  refine n_callV (n := 3) X [0, 1, 2, 3, 4, 5, 6, 7, 8, 9, 10, 11, 12, 13] 0 (c_X12_lays1 E (fun k => if k = 0 then h0 else List.getD [h0, a1, a2, a3, a4, a5, a6, a7, a8, a9, a10, a11, a12, a13] k 0) (fun _ => none) (lays1_ok nu_16 5 3 (60 : Int32) (by decide) (by decide))) (cut_wM_wM_c ..) rfl rfl (ws' := wM E (fun k => if k = 0 then h0 else List.getD [h0, a1, a2, a3, a4, a5, a6, a7, a8, a9, a10, a11, a12, a13] k 0) (fun _ => none) nu_17) (cut_wM_wM_w ..) (wM_0 ..) rfl k_912 k_914 k_23 k_80 k_915 ⟨rfl, rfl⟩ hdV_X12_lays1 ⟨Nat.le_of_ble_eq_true rfl, Nat.le_of_ble_eq_true rfl⟩ ⟨Nat.le_of_ble_eq_true rfl, Nat.le_of_ble_eq_true rfl⟩ rfl (Nat.le_of_ble_eq_true rfl) rfl dX12_init_143 ?_
  refine n_aload_n X dX12_init_146 rfl rfl ?_
  refine n_iload_n X dX12_init_147 rfl rfl ?_
  refine n_iconst (v := (4 : Int32)) X dX12_init_148 (by decide) ?_
  refine n_iconst (v := (-1 : Int32)) X dX12_init_149 (by decide) ?_
  refine n_callV (n := 3) X [0, 1, 2, 3, 4, 5, 6, 7, 8, 9, 10, 11, 12, 13] 0 (c_X12_lays1 E (fun k => if k = 0 then h0 else List.getD [h0, a1, a2, a3, a4, a5, a6, a7, a8, a9, a10, a11, a12, a13] k 0) (fun _ => none) (lays1_ok nu_17 5 4 (-1 : Int32) (by decide) (by decide))) (cut_wM_wM_c ..) rfl rfl (ws' := wM E (fun k => if k = 0 then h0 else List.getD [h0, a1, a2, a3, a4, a5, a6, a7, a8, a9, a10, a11, a12, a13] k 0) (fun _ => none) nu_18) (cut_wM_wM_w ..) (wM_0 ..) rfl k_912 k_914 k_23 k_80 k_915 ⟨rfl, rfl⟩ hdV_X12_lays1 ⟨Nat.le_of_ble_eq_true rfl, Nat.le_of_ble_eq_true rfl⟩ ⟨Nat.le_of_ble_eq_true rfl, Nat.le_of_ble_eq_true rfl⟩ rfl (Nat.le_of_ble_eq_true rfl) rfl dX12_init_150 ?_
  refine n_iincX (k := (1 : Int32)) (v := (6 : Int32)) X dX12_init_153 (by decide) (by decide) rfl (by decide) rfl (lo' := [some (.ref h0), some (.int (6 : Int32))]) rfl ?_
  refine n_goto (tgt := 125) X dX12_init_156 (by decide) ?_
  refine n_iload_n X dX12_init_125 rfl rfl ?_
  refine n_bipush (v := (9 : Int32)) X dX12_init_126 (by decide) ?_
  refine n_icmp_ge (tgt := 159) X dX12_init_128 (by decide) (fun c_9 => absurd c_9 (by decide)) (fun _ => ?_)
  refine n_aload_n X dX12_init_131 rfl rfl ?_
  refine n_iload_n X dX12_init_132 rfl rfl ?_
  refine n_iconst (v := (2 : Int32)) X dX12_init_133 (by decide) ?_
  refine n_iload_n X dX12_init_134 rfl rfl ?_
  refine n_callV (n := 3) X [0, 1, 2, 3, 4, 5, 6, 7, 8, 9, 10, 11, 12, 13] 0 (c_X12_lays1 E (fun k => if k = 0 then h0 else List.getD [h0, a1, a2, a3, a4, a5, a6, a7, a8, a9, a10, a11, a12, a13] k 0) (fun _ => none) (lays1_ok nu_18 6 2 (6 : Int32) (by decide) (by decide))) (cut_wM_wM_c ..) rfl rfl (ws' := wM E (fun k => if k = 0 then h0 else List.getD [h0, a1, a2, a3, a4, a5, a6, a7, a8, a9, a10, a11, a12, a13] k 0) (fun _ => none) nu_19) (cut_wM_wM_w ..) (wM_0 ..) rfl k_912 k_914 k_23 k_80 k_915 ⟨rfl, rfl⟩ hdV_X12_lays1 ⟨Nat.le_of_ble_eq_true rfl, Nat.le_of_ble_eq_true rfl⟩ ⟨Nat.le_of_ble_eq_true rfl, Nat.le_of_ble_eq_true rfl⟩ rfl (Nat.le_of_ble_eq_true rfl) rfl dX12_init_135 ?_
  refine n_aload_n X dX12_init_138 rfl rfl ?_
  refine n_iload_n X dX12_init_139 rfl rfl ?_
  refine n_iconst (v := (3 : Int32)) X dX12_init_140 (by decide) ?_
  refine n_bipush (v := (60 : Int32)) X dX12_init_141 (by decide) ?_
  refine n_callV (n := 3) X [0, 1, 2, 3, 4, 5, 6, 7, 8, 9, 10, 11, 12, 13] 0 (c_X12_lays1 E (fun k => if k = 0 then h0 else List.getD [h0, a1, a2, a3, a4, a5, a6, a7, a8, a9, a10, a11, a12, a13] k 0) (fun _ => none) (lays1_ok nu_19 6 3 (60 : Int32) (by decide) (by decide))) (cut_wM_wM_c ..) rfl rfl (ws' := wM E (fun k => if k = 0 then h0 else List.getD [h0, a1, a2, a3, a4, a5, a6, a7, a8, a9, a10, a11, a12, a13] k 0) (fun _ => none) nu_20) (cut_wM_wM_w ..) (wM_0 ..) rfl k_912 k_914 k_23 k_80 k_915 ⟨rfl, rfl⟩ hdV_X12_lays1 ⟨Nat.le_of_ble_eq_true rfl, Nat.le_of_ble_eq_true rfl⟩ ⟨Nat.le_of_ble_eq_true rfl, Nat.le_of_ble_eq_true rfl⟩ rfl (Nat.le_of_ble_eq_true rfl) rfl dX12_init_143 ?_
  refine n_aload_n X dX12_init_146 rfl rfl ?_
  refine n_iload_n X dX12_init_147 rfl rfl ?_
  refine n_iconst (v := (4 : Int32)) X dX12_init_148 (by decide) ?_
  refine n_iconst (v := (-1 : Int32)) X dX12_init_149 (by decide) ?_
  refine n_callV (n := 3) X [0, 1, 2, 3, 4, 5, 6, 7, 8, 9, 10, 11, 12, 13] 0 (c_X12_lays1 E (fun k => if k = 0 then h0 else List.getD [h0, a1, a2, a3, a4, a5, a6, a7, a8, a9, a10, a11, a12, a13] k 0) (fun _ => none) (lays1_ok nu_20 6 4 (-1 : Int32) (by decide) (by decide))) (cut_wM_wM_c ..) rfl rfl (ws' := wM E (fun k => if k = 0 then h0 else List.getD [h0, a1, a2, a3, a4, a5, a6, a7, a8, a9, a10, a11, a12, a13] k 0) (fun _ => none) nu_21) (cut_wM_wM_w ..) (wM_0 ..) rfl k_912 k_914 k_23 k_80 k_915 ⟨rfl, rfl⟩ hdV_X12_lays1 ⟨Nat.le_of_ble_eq_true rfl, Nat.le_of_ble_eq_true rfl⟩ ⟨Nat.le_of_ble_eq_true rfl, Nat.le_of_ble_eq_true rfl⟩ rfl (Nat.le_of_ble_eq_true rfl) rfl dX12_init_150 ?_
  refine n_iincX (k := (1 : Int32)) (v := (7 : Int32)) X dX12_init_153 (by decide) (by decide) rfl (by decide) rfl (lo' := [some (.ref h0), some (.int (7 : Int32))]) rfl ?_
  refine n_goto (tgt := 125) X dX12_init_156 (by decide) ?_
  refine n_iload_n X dX12_init_125 rfl rfl ?_
  refine n_bipush (v := (9 : Int32)) X dX12_init_126 (by decide) ?_
  refine n_icmp_ge (tgt := 159) X dX12_init_128 (by decide) (fun c_9 => absurd c_9 (by decide)) (fun _ => ?_)
  refine n_aload_n X dX12_init_131 rfl rfl ?_
  refine n_iload_n X dX12_init_132 rfl rfl ?_
  refine n_iconst (v := (2 : Int32)) X dX12_init_133 (by decide) ?_
  refine n_iload_n X dX12_init_134 rfl rfl ?_
  refine n_callV (n := 3) X [0, 1, 2, 3, 4, 5, 6, 7, 8, 9, 10, 11, 12, 13] 0 (c_X12_lays1 E (fun k => if k = 0 then h0 else List.getD [h0, a1, a2, a3, a4, a5, a6, a7, a8, a9, a10, a11, a12, a13] k 0) (fun _ => none) (lays1_ok nu_21 7 2 (7 : Int32) (by decide) (by decide))) (cut_wM_wM_c ..) rfl rfl (ws' := wM E (fun k => if k = 0 then h0 else List.getD [h0, a1, a2, a3, a4, a5, a6, a7, a8, a9, a10, a11, a12, a13] k 0) (fun _ => none) nu_22) (cut_wM_wM_w ..) (wM_0 ..) rfl k_912 k_914 k_23 k_80 k_915 ⟨rfl, rfl⟩ hdV_X12_lays1 ⟨Nat.le_of_ble_eq_true rfl, Nat.le_of_ble_eq_true rfl⟩ ⟨Nat.le_of_ble_eq_true rfl, Nat.le_of_ble_eq_true rfl⟩ rfl (Nat.le_of_ble_eq_true rfl) rfl dX12_init_135 ?_
  refine n_aload_n X dX12_init_138 rfl rfl ?_
  refine n_iload_n X dX12_init_139 rfl rfl ?_
  refine n_iconst (v := (3 : Int32)) X dX12_init_140 (by decide) ?_
  refine n_bipush (v := (60 : Int32)) X dX12_init_141 (by decide) ?_
  refine n_callV (n := 3) X [0, 1, 2, 3, 4, 5, 6, 7, 8, 9, 10, 11, 12, 13] 0 (c_X12_lays1 E (fun k => if k = 0 then h0 else List.getD [h0, a1, a2, a3, a4, a5, a6, a7, a8, a9, a10, a11, a12, a13] k 0) (fun _ => none) (lays1_ok nu_22 7 3 (60 : Int32) (by decide) (by decide))) (cut_wM_wM_c ..) rfl rfl (ws' := wM E (fun k => if k = 0 then h0 else List.getD [h0, a1, a2, a3, a4, a5, a6, a7, a8, a9, a10, a11, a12, a13] k 0) (fun _ => none) nu_23) (cut_wM_wM_w ..) (wM_0 ..) rfl k_912 k_914 k_23 k_80 k_915 ⟨rfl, rfl⟩ hdV_X12_lays1 ⟨Nat.le_of_ble_eq_true rfl, Nat.le_of_ble_eq_true rfl⟩ ⟨Nat.le_of_ble_eq_true rfl, Nat.le_of_ble_eq_true rfl⟩ rfl (Nat.le_of_ble_eq_true rfl) rfl dX12_init_143 ?_
  refine n_aload_n X dX12_init_146 rfl rfl ?_
  refine n_iload_n X dX12_init_147 rfl rfl ?_
  refine n_iconst (v := (4 : Int32)) X dX12_init_148 (by decide) ?_
  refine n_iconst (v := (-1 : Int32)) X dX12_init_149 (by decide) ?_
  refine n_callV (n := 3) X [0, 1, 2, 3, 4, 5, 6, 7, 8, 9, 10, 11, 12, 13] 0 (c_X12_lays1 E (fun k => if k = 0 then h0 else List.getD [h0, a1, a2, a3, a4, a5, a6, a7, a8, a9, a10, a11, a12, a13] k 0) (fun _ => none) (lays1_ok nu_23 7 4 (-1 : Int32) (by decide) (by decide))) (cut_wM_wM_c ..) rfl rfl (ws' := wM E (fun k => if k = 0 then h0 else List.getD [h0, a1, a2, a3, a4, a5, a6, a7, a8, a9, a10, a11, a12, a13] k 0) (fun _ => none) nu_24) (cut_wM_wM_w ..) (wM_0 ..) rfl k_912 k_914 k_23 k_80 k_915 ⟨rfl, rfl⟩ hdV_X12_lays1 ⟨Nat.le_of_ble_eq_true rfl, Nat.le_of_ble_eq_true rfl⟩ ⟨Nat.le_of_ble_eq_true rfl, Nat.le_of_ble_eq_true rfl⟩ rfl (Nat.le_of_ble_eq_true rfl) rfl dX12_init_150 ?_
  refine n_iincX (k := (1 : Int32)) (v := (8 : Int32)) X dX12_init_153 (by decide) (by decide) rfl (by decide) rfl (lo' := [some (.ref h0), some (.int (8 : Int32))]) rfl ?_
  refine n_goto (tgt := 125) X dX12_init_156 (by decide) ?_
  refine n_iload_n X dX12_init_125 rfl rfl ?_
  refine n_bipush (v := (9 : Int32)) X dX12_init_126 (by decide) ?_
  refine n_icmp_ge (tgt := 159) X dX12_init_128 (by decide) (fun c_9 => absurd c_9 (by decide)) (fun _ => ?_)
  refine n_aload_n X dX12_init_131 rfl rfl ?_
  refine n_iload_n X dX12_init_132 rfl rfl ?_
  refine n_iconst (v := (2 : Int32)) X dX12_init_133 (by decide) ?_
  refine n_iload_n X dX12_init_134 rfl rfl ?_
  refine n_callV (n := 3) X [0, 1, 2, 3, 4, 5, 6, 7, 8, 9, 10, 11, 12, 13] 0 (c_X12_lays1 E (fun k => if k = 0 then h0 else List.getD [h0, a1, a2, a3, a4, a5, a6, a7, a8, a9, a10, a11, a12, a13] k 0) (fun _ => none) (lays1_ok nu_24 8 2 (8 : Int32) (by decide) (by decide))) (cut_wM_wM_c ..) rfl rfl (ws' := wM E (fun k => if k = 0 then h0 else List.getD [h0, a1, a2, a3, a4, a5, a6, a7, a8, a9, a10, a11, a12, a13] k 0) (fun _ => none) nu_25) (cut_wM_wM_w ..) (wM_0 ..) rfl k_912 k_914 k_23 k_80 k_915 ⟨rfl, rfl⟩ hdV_X12_lays1 ⟨Nat.le_of_ble_eq_true rfl, Nat.le_of_ble_eq_true rfl⟩ ⟨Nat.le_of_ble_eq_true rfl, Nat.le_of_ble_eq_true rfl⟩ rfl (Nat.le_of_ble_eq_true rfl) rfl dX12_init_135 ?_
  refine n_aload_n X dX12_init_138 rfl rfl ?_
  refine n_iload_n X dX12_init_139 rfl rfl ?_
  refine n_iconst (v := (3 : Int32)) X dX12_init_140 (by decide) ?_
  refine n_bipush (v := (60 : Int32)) X dX12_init_141 (by decide) ?_
  refine n_callV (n := 3) X [0, 1, 2, 3, 4, 5, 6, 7, 8, 9, 10, 11, 12, 13] 0 (c_X12_lays1 E (fun k => if k = 0 then h0 else List.getD [h0, a1, a2, a3, a4, a5, a6, a7, a8, a9, a10, a11, a12, a13] k 0) (fun _ => none) (lays1_ok nu_25 8 3 (60 : Int32) (by decide) (by decide))) (cut_wM_wM_c ..) rfl rfl (ws' := wM E (fun k => if k = 0 then h0 else List.getD [h0, a1, a2, a3, a4, a5, a6, a7, a8, a9, a10, a11, a12, a13] k 0) (fun _ => none) nu_26) (cut_wM_wM_w ..) (wM_0 ..) rfl k_912 k_914 k_23 k_80 k_915 ⟨rfl, rfl⟩ hdV_X12_lays1 ⟨Nat.le_of_ble_eq_true rfl, Nat.le_of_ble_eq_true rfl⟩ ⟨Nat.le_of_ble_eq_true rfl, Nat.le_of_ble_eq_true rfl⟩ rfl (Nat.le_of_ble_eq_true rfl) rfl dX12_init_143 ?_
  refine n_aload_n X dX12_init_146 rfl rfl ?_
  refine n_iload_n X dX12_init_147 rfl rfl ?_
  refine n_iconst (v := (4 : Int32)) X dX12_init_148 (by decide) ?_
  refine n_iconst (v := (-1 : Int32)) X dX12_init_149 (by decide) ?_
  refine n_callV (n := 3) X [0, 1, 2, 3, 4, 5, 6, 7, 8, 9, 10, 11, 12, 13] 0 (c_X12_lays1 E (fun k => if k = 0 then h0 else List.getD [h0, a1, a2, a3, a4, a5, a6, a7, a8, a9, a10, a11, a12, a13] k 0) (fun _ => none) (lays1_ok nu_26 8 4 (-1 : Int32) (by decide) (by decide))) (cut_wM_wM_c ..) rfl rfl (ws' := wM E (fun k => if k = 0 then h0 else List.getD [h0, a1, a2, a3, a4, a5, a6, a7, a8, a9, a10, a11, a12, a13] k 0) (fun _ => none) nu_27) (cut_wM_wM_w ..) (wM_0 ..) rfl k_912 k_914 k_23 k_80 k_915 ⟨rfl, rfl⟩ hdV_X12_lays1 ⟨Nat.le_of_ble_eq_true rfl, Nat.le_of_ble_eq_true rfl⟩ ⟨Nat.le_of_ble_eq_true rfl, Nat.le_of_ble_eq_true rfl⟩ rfl (Nat.le_of_ble_eq_true rfl) rfl dX12_init_150 ?_
  refine n_iincX (k := (1 : Int32)) (v := (9 : Int32)) X dX12_init_153 (by decide) (by decide) rfl (by decide) rfl (lo' := [some (.ref h0), some (.int (9 : Int32))]) rfl ?_
  refine n_goto (tgt := 125) X dX12_init_156 (by decide) ?_
  refine n_iload_n X dX12_init_125 rfl rfl ?_
  refine n_bipush (v := (9 : Int32)) X dX12_init_126 (by decide) ?_
  refine n_icmp_ge (tgt := 159) X dX12_init_128 (by decide) (fun _ => ?_) (fun c_9 => absurd (by decide) c_9)
  exact n_vret X hr hlk (fun k => List.getD [h0, a1, a2, a3, a4, a5, a6, a7, a8, a9, a10, a11, a12, a13] k 0) rfl dX12_init_159 hQ
