/-! ===== the two great constructors ===== -/
theorem c_X3 {l : Launch} (hf : l.stackTraces = false) : SpN l kX3_init 1 64 2 63 518 [.ref 0] (MR []) (MR TL3) := by
  refine spN_of hf (by decide +kernel) (Nat.le_of_ble_eq_true rfl) (by intro v hv; simp at hv; subst hv; rfl) rfl ?_
  refine e_aload_0 dX3_init_0 rfl ?_
  refine e_obj dX3_init_1 rfl obX3 ⟨Nat.le_of_ble_eq_true rfl, Nat.le_of_ble_eq_true rfl⟩ (Nat.le_of_ble_eq_true rfl) ?_
  refine e_aload_0 dX3_init_4 rfl ?_
  refine e_bipush (v := nI 8) dX3_init_5 rfl bc_8 ?_
  refine e_newQ (C := RX2) (N := 8) (kd := 9) (t0 := 4) dX3_init_7 rfl (gw_of 55 (by decide +kernel) rfl) (fun _ => rfl) (fun _ h => h.1) (fun cy L => qE rfl (by decide) (by decide) (by decide +kernel) cy L) gN_ao (by decide) (by decide) (by decide) (gN_mon (by decide) (by decide)) (by decide +kernel) ⟨rf_a (by omega), trivial⟩ ⟨ro_a (by omega), ⟨trivial, trivial⟩⟩ ⟨Nat.le_of_ble_eq_true rfl, Nat.le_of_ble_eq_true rfl⟩ ?_
  refine e_putR dX3_init_10 rfl lfX3_11 rfl rfl (fun _ => rfl) (fun _ => rfl) ps_0 (by decide) (by decide) ?_
  refine e_aload_0 dX3_init_13 rfl ?_
  refine e_bipush (v := nI 8) dX3_init_14 rfl bc_8 ?_
  refine e_newQ (C := RX1) (N := 8) (kd := 8) (t0 := 3) dX3_init_16 rfl (gw_of 57 (by decide +kernel) rfl) (fun _ => rfl) (fun _ h => h.2.1) (fun cy L => qE rfl (by decide) (by decide) (by decide +kernel) cy L) gN_ao (by decide) (by decide) (by decide) (gN_mon (by decide) (by decide)) (by decide +kernel) ⟨rf_a (by omega), trivial⟩ ⟨ro_a (by omega), ⟨trivial, trivial⟩⟩ ⟨Nat.le_of_ble_eq_true rfl, Nat.le_of_ble_eq_true rfl⟩ ?_
  refine e_putR dX3_init_19 rfl lfX3_17 rfl rfl (fun _ => rfl) (fun _ => rfl) ps_0 (by decide) (by decide) ?_
  refine e_aload_0 dX3_init_22 rfl ?_
  refine e_iconst (v := nI 3) dX3_init_23 rfl ic_3 ?_
  refine e_newQ (C := RX0) (N := 3) (kd := 7) (t0 := 2) dX3_init_24 rfl (gw_of 59 (by decide +kernel) rfl) (fun _ => rfl) (fun _ h => h.2.2.1) (fun cy L => qE rfl (by decide) (by decide) (by decide +kernel) cy L) gN_ao (by decide) (by decide) (by decide) (gN_mon (by decide) (by decide)) (by decide +kernel) ⟨rf_a (by omega), trivial⟩ ⟨ro_a (by omega), ⟨trivial, trivial⟩⟩ ⟨Nat.le_of_ble_eq_true rfl, Nat.le_of_ble_eq_true rfl⟩ ?_
  refine e_putR dX3_init_27 rfl lfX3_23 rfl rfl (fun _ => rfl) (fun _ => rfl) ps_0 (by decide) (by decide) ?_
  refine e_aload_0 dX3_init_30 rfl ?_
  refine e_bipush (v := nI 32) dX3_init_31 rfl bc_32 ?_
  refine e_newA (ty := .int) (N := 32) (kd := 5) (t0 := 0) (a0 := (32, .inl fun _ => 0)) dX3_init_33 rfl rfl (fun _ => rfl) ac_int (fun _ _ => pmE_int (show psh 4 = (5, 32) from rfl) (Or.inl rfl)) (fun _ => rfl) (fun _ _ h => h) (by decide) (by decide) (by decide) (gN_mon (by decide) (by decide)) (by decide +kernel) ⟨rf_a (by omega), trivial⟩ ⟨ro_a (by omega), ⟨trivial, trivial⟩⟩ ⟨Nat.le_of_ble_eq_true rfl, Nat.le_of_ble_eq_true rfl⟩ ?_
  refine e_putR dX3_init_35 rfl lfX3_27 rfl rfl (fun _ => rfl) (fun _ => rfl) ps_0 (by decide) (by decide) ?_
  refine e_aload_0 dX3_init_38 rfl ?_
  refine e_bipush (v := nI 9) dX3_init_39 rfl bc_9 ?_
  refine e_bipush (v := nI 9) dX3_init_41 rfl bc_9 ?_
  refine e_newM dX3_init_43 rfl (gw_of 61 (by decide +kernel) rfl) ac_int gN_ao (gN_mon (by decide) (by decide)) (by decide +kernel) (by decide +kernel) ⟨rf_a (by omega), trivial⟩ ⟨ro_a (by omega), ⟨trivial, trivial⟩⟩ ⟨Nat.le_of_ble_eq_true rfl, Nat.le_of_ble_eq_true rfl⟩ ?_
  refine e_putR dX3_init_47 rfl lfX3_33 rfl rfl (fun _ => rfl) (fun _ => rfl) ps_0 (by decide) (by decide) ?_
  refine e_iconst (v := nI 0) dX3_init_50 rfl ic_0 ?_
  refine e_istore_1 dX3_init_51 rfl (Nat.le_of_ble_eq_true rfl) rfl ?_
  refine e_iload_1 dX3_init_52 rfl ?_
  refine e_bipush (v := nI 8) dX3_init_53 rfl bc_8 ?_
  refine e_nc_ge_f (a := 0) (b := 8) dX3_init_55 rfl ⟨77, by decide⟩ (by decide) (by decide) (by decide) ?_
  refine e_aload_0 dX3_init_58 rfl ?_
  refine e_getR (b := 1) dX3_init_59 rfl lkX3_11 rfl ps_0 (by decide) (by decide) rfl ?_
  refine e_iload_1 dX3_init_62 rfl ?_
  refine e_newO dX3_init_63 rfl (ci := 2) rfl rfl (by decide) (gw_of 55 (by decide +kernel) rfl) (gw_of 63 (by decide +kernel) rfl) (gw_of 30 (by decide +kernel) rfl) dvX2 (gN_mon (by decide) (by decide)) (by decide +kernel) (by decide +kernel) ⟨trivial, ⟨rf_a (by omega), trivial⟩⟩ ⟨ro_a (by omega), ⟨trivial, trivial⟩⟩ ⟨Nat.le_of_ble_eq_true rfl, Nat.le_of_ble_eq_true rfl⟩ ?_
  refine e_dup dX3_init_66 rfl rfl ?_
  refine e_callC (n' := 17) dX3_init_67 rfl (Or.inr ciX3_36) rfl rfl (c_VS hf (i := 0) (by decide) (by decide +kernel)) ⟨Nat.le_of_ble_eq_true rfl, Nat.le_of_ble_eq_true rfl⟩ ⟨Nat.le_of_ble_eq_true rfl, Nat.le_of_ble_eq_true rfl⟩ (Nat.le_of_ble_eq_true rfl) (gN_mon (by decide) (by decide)) gN_ao ⟨rf_a (by omega), ⟨trivial, ⟨rf_a (by omega), trivial⟩⟩⟩ ⟨ro_a (by omega), ⟨trivial, trivial⟩⟩ rfl rfl ?_
  refine e_aastR (j := 0) (k := 9) (ci := 2) dX3_init_70 rfl rfl (Or.inr (Or.inr ⟨rfl, rfl⟩)) (by decide) rfl (by decide) rfl (by decide) ?_
  refine e_iinc_1 (v := nI 1) dX3_init_71 rfl (Nat.le_of_ble_eq_true rfl) rfl (nI_1 0) ?_
  refine e_goto (tgt := 52) dX3_init_74 (by decide) ?_
  refine e_iload_1 dX3_init_52 rfl ?_
  refine e_bipush (v := nI 8) dX3_init_53 rfl bc_8 ?_
  refine e_nc_ge_f (a := 1) (b := 8) dX3_init_55 rfl ⟨77, by decide⟩ (by decide) (by decide) (by decide) ?_
  refine e_aload_0 dX3_init_58 rfl ?_
  refine e_getR (b := 1) dX3_init_59 rfl lkX3_11 rfl ps_0 (by decide) (by decide) rfl ?_
  refine e_iload_1 dX3_init_62 rfl ?_
  refine e_newO dX3_init_63 rfl (ci := 2) rfl rfl (by decide) (gw_of 55 (by decide +kernel) rfl) (gw_of 63 (by decide +kernel) rfl) (gw_of 30 (by decide +kernel) rfl) dvX2 (gN_mon (by decide) (by decide)) (by decide +kernel) (by decide +kernel) ⟨trivial, ⟨rf_a (by omega), trivial⟩⟩ ⟨ro_a (by omega), ⟨trivial, trivial⟩⟩ ⟨Nat.le_of_ble_eq_true rfl, Nat.le_of_ble_eq_true rfl⟩ ?_
  refine e_dup dX3_init_66 rfl rfl ?_
  refine e_callC (n' := 19) dX3_init_67 rfl (Or.inr ciX3_36) rfl rfl (c_VS hf (i := 1) (by decide) (by decide +kernel)) ⟨Nat.le_of_ble_eq_true rfl, Nat.le_of_ble_eq_true rfl⟩ ⟨Nat.le_of_ble_eq_true rfl, Nat.le_of_ble_eq_true rfl⟩ (Nat.le_of_ble_eq_true rfl) (gN_mon (by decide) (by decide)) gN_ao ⟨rf_a (by omega), ⟨trivial, ⟨rf_a (by omega), trivial⟩⟩⟩ ⟨ro_a (by omega), ⟨trivial, trivial⟩⟩ rfl rfl ?_
  refine e_aastR (j := 1) (k := 9) (ci := 2) dX3_init_70 rfl rfl (Or.inr (Or.inr ⟨rfl, rfl⟩)) (by decide) rfl (by decide) rfl (by decide) ?_
  refine e_iinc_1 (v := nI 2) dX3_init_71 rfl (Nat.le_of_ble_eq_true rfl) rfl (nI_1 1) ?_
  refine e_goto (tgt := 52) dX3_init_74 (by decide) ?_
  refine e_iload_1 dX3_init_52 rfl ?_
  refine e_bipush (v := nI 8) dX3_init_53 rfl bc_8 ?_
  refine e_nc_ge_f (a := 2) (b := 8) dX3_init_55 rfl ⟨77, by decide⟩ (by decide) (by decide) (by decide) ?_
  refine e_aload_0 dX3_init_58 rfl ?_
  refine e_getR (b := 1) dX3_init_59 rfl lkX3_11 rfl ps_0 (by decide) (by decide) rfl ?_
  refine e_iload_1 dX3_init_62 rfl ?_
  refine e_newO dX3_init_63 rfl (ci := 2) rfl rfl (by decide) (gw_of 55 (by decide +kernel) rfl) (gw_of 63 (by decide +kernel) rfl) (gw_of 30 (by decide +kernel) rfl) dvX2 (gN_mon (by decide) (by decide)) (by decide +kernel) (by decide +kernel) ⟨trivial, ⟨rf_a (by omega), trivial⟩⟩ ⟨ro_a (by omega), ⟨trivial, trivial⟩⟩ ⟨Nat.le_of_ble_eq_true rfl, Nat.le_of_ble_eq_true rfl⟩ ?_
  refine e_dup dX3_init_66 rfl rfl ?_
  refine e_callC (n' := 21) dX3_init_67 rfl (Or.inr ciX3_36) rfl rfl (c_VS hf (i := 2) (by decide) (by decide +kernel)) ⟨Nat.le_of_ble_eq_true rfl, Nat.le_of_ble_eq_true rfl⟩ ⟨Nat.le_of_ble_eq_true rfl, Nat.le_of_ble_eq_true rfl⟩ (Nat.le_of_ble_eq_true rfl) (gN_mon (by decide) (by decide)) gN_ao ⟨rf_a (by omega), ⟨trivial, ⟨rf_a (by omega), trivial⟩⟩⟩ ⟨ro_a (by omega), ⟨trivial, trivial⟩⟩ rfl rfl ?_
  refine e_aastR (j := 2) (k := 9) (ci := 2) dX3_init_70 rfl rfl (Or.inr (Or.inr ⟨rfl, rfl⟩)) (by decide) rfl (by decide) rfl (by decide) ?_
  refine e_iinc_1 (v := nI 3) dX3_init_71 rfl (Nat.le_of_ble_eq_true rfl) rfl (nI_1 2) ?_
  refine e_goto (tgt := 52) dX3_init_74 (by decide) ?_
  refine e_iload_1 dX3_init_52 rfl ?_
  refine e_bipush (v := nI 8) dX3_init_53 rfl bc_8 ?_
  refine e_nc_ge_f (a := 3) (b := 8) dX3_init_55 rfl ⟨77, by decide⟩ (by decide) (by decide) (by decide) ?_
  refine e_aload_0 dX3_init_58 rfl ?_
  refine e_getR (b := 1) dX3_init_59 rfl lkX3_11 rfl ps_0 (by decide) (by decide) rfl ?_
  refine e_iload_1 dX3_init_62 rfl ?_
  refine e_newO dX3_init_63 rfl (ci := 2) rfl rfl (by decide) (gw_of 55 (by decide +kernel) rfl) (gw_of 63 (by decide +kernel) rfl) (gw_of 30 (by decide +kernel) rfl) dvX2 (gN_mon (by decide) (by decide)) (by decide +kernel) (by decide +kernel) ⟨trivial, ⟨rf_a (by omega), trivial⟩⟩ ⟨ro_a (by omega), ⟨trivial, trivial⟩⟩ ⟨Nat.le_of_ble_eq_true rfl, Nat.le_of_ble_eq_true rfl⟩ ?_
  refine e_dup dX3_init_66 rfl rfl ?_
  refine e_callC (n' := 23) dX3_init_67 rfl (Or.inr ciX3_36) rfl rfl (c_VS hf (i := 3) (by decide) (by decide +kernel)) ⟨Nat.le_of_ble_eq_true rfl, Nat.le_of_ble_eq_true rfl⟩ ⟨Nat.le_of_ble_eq_true rfl, Nat.le_of_ble_eq_true rfl⟩ (Nat.le_of_ble_eq_true rfl) (gN_mon (by decide) (by decide)) gN_ao ⟨rf_a (by omega), ⟨trivial, ⟨rf_a (by omega), trivial⟩⟩⟩ ⟨ro_a (by omega), ⟨trivial, trivial⟩⟩ rfl rfl ?_
  refine e_aastR (j := 3) (k := 9) (ci := 2) dX3_init_70 rfl rfl (Or.inr (Or.inr ⟨rfl, rfl⟩)) (by decide) rfl (by decide) rfl (by decide) ?_
  refine e_iinc_1 (v := nI 4) dX3_init_71 rfl (Nat.le_of_ble_eq_true rfl) rfl (nI_1 3) ?_
  refine e_goto (tgt := 52) dX3_init_74 (by decide) ?_
  refine e_iload_1 dX3_init_52 rfl ?_
  refine e_bipush (v := nI 8) dX3_init_53 rfl bc_8 ?_
  refine e_nc_ge_f (a := 4) (b := 8) dX3_init_55 rfl ⟨77, by decide⟩ (by decide) (by decide) (by decide) ?_
  refine e_aload_0 dX3_init_58 rfl ?_
  refine e_getR (b := 1) dX3_init_59 rfl lkX3_11 rfl ps_0 (by decide) (by decide) rfl ?_
  refine e_iload_1 dX3_init_62 rfl ?_
  refine e_newO dX3_init_63 rfl (ci := 2) rfl rfl (by decide) (gw_of 55 (by decide +kernel) rfl) (gw_of 63 (by decide +kernel) rfl) (gw_of 30 (by decide +kernel) rfl) dvX2 (gN_mon (by decide) (by decide)) (by decide +kernel) (by decide +kernel) ⟨trivial, ⟨rf_a (by omega), trivial⟩⟩ ⟨ro_a (by omega), ⟨trivial, trivial⟩⟩ ⟨Nat.le_of_ble_eq_true rfl, Nat.le_of_ble_eq_true rfl⟩ ?_
  refine e_dup dX3_init_66 rfl rfl ?_
  refine e_callC (n' := 25) dX3_init_67 rfl (Or.inr ciX3_36) rfl rfl (c_VS hf (i := 4) (by decide) (by decide +kernel)) ⟨Nat.le_of_ble_eq_true rfl, Nat.le_of_ble_eq_true rfl⟩ ⟨Nat.le_of_ble_eq_true rfl, Nat.le_of_ble_eq_true rfl⟩ (Nat.le_of_ble_eq_true rfl) (gN_mon (by decide) (by decide)) gN_ao ⟨rf_a (by omega), ⟨trivial, ⟨rf_a (by omega), trivial⟩⟩⟩ ⟨ro_a (by omega), ⟨trivial, trivial⟩⟩ rfl rfl ?_
  refine e_aastR (j := 4) (k := 9) (ci := 2) dX3_init_70 rfl rfl (Or.inr (Or.inr ⟨rfl, rfl⟩)) (by decide) rfl (by decide) rfl (by decide) ?_
  refine e_iinc_1 (v := nI 5) dX3_init_71 rfl (Nat.le_of_ble_eq_true rfl) rfl (nI_1 4) ?_
  refine e_goto (tgt := 52) dX3_init_74 (by decide) ?_
  refine e_iload_1 dX3_init_52 rfl ?_
  refine e_bipush (v := nI 8) dX3_init_53 rfl bc_8 ?_
  refine e_nc_ge_f (a := 5) (b := 8) dX3_init_55 rfl ⟨77, by decide⟩ (by decide) (by decide) (by decide) ?_
  refine e_aload_0 dX3_init_58 rfl ?_
  refine e_getR (b := 1) dX3_init_59 rfl lkX3_11 rfl ps_0 (by decide) (by decide) rfl ?_
  refine e_iload_1 dX3_init_62 rfl ?_
  refine e_newO dX3_init_63 rfl (ci := 2) rfl rfl (by decide) (gw_of 55 (by decide +kernel) rfl) (gw_of 63 (by decide +kernel) rfl) (gw_of 30 (by decide +kernel) rfl) dvX2 (gN_mon (by decide) (by decide)) (by decide +kernel) (by decide +kernel) ⟨trivial, ⟨rf_a (by omega), trivial⟩⟩ ⟨ro_a (by omega), ⟨trivial, trivial⟩⟩ ⟨Nat.le_of_ble_eq_true rfl, Nat.le_of_ble_eq_true rfl⟩ ?_
  refine e_dup dX3_init_66 rfl rfl ?_
  refine e_callC (n' := 27) dX3_init_67 rfl (Or.inr ciX3_36) rfl rfl (c_VS hf (i := 5) (by decide) (by decide +kernel)) ⟨Nat.le_of_ble_eq_true rfl, Nat.le_of_ble_eq_true rfl⟩ ⟨Nat.le_of_ble_eq_true rfl, Nat.le_of_ble_eq_true rfl⟩ (Nat.le_of_ble_eq_true rfl) (gN_mon (by decide) (by decide)) gN_ao ⟨rf_a (by omega), ⟨trivial, ⟨rf_a (by omega), trivial⟩⟩⟩ ⟨ro_a (by omega), ⟨trivial, trivial⟩⟩ rfl rfl ?_
  refine e_aastR (j := 5) (k := 9) (ci := 2) dX3_init_70 rfl rfl (Or.inr (Or.inr ⟨rfl, rfl⟩)) (by decide) rfl (by decide) rfl (by decide) ?_
  refine e_iinc_1 (v := nI 6) dX3_init_71 rfl (Nat.le_of_ble_eq_true rfl) rfl (nI_1 5) ?_
  refine e_goto (tgt := 52) dX3_init_74 (by decide) ?_
  refine e_iload_1 dX3_init_52 rfl ?_
  refine e_bipush (v := nI 8) dX3_init_53 rfl bc_8 ?_
  refine e_nc_ge_f (a := 6) (b := 8) dX3_init_55 rfl ⟨77, by decide⟩ (by decide) (by decide) (by decide) ?_
  refine e_aload_0 dX3_init_58 rfl ?_
  refine e_getR (b := 1) dX3_init_59 rfl lkX3_11 rfl ps_0 (by decide) (by decide) rfl ?_
  refine e_iload_1 dX3_init_62 rfl ?_
  refine e_newO dX3_init_63 rfl (ci := 2) rfl rfl (by decide) (gw_of 55 (by decide +kernel) rfl) (gw_of 63 (by decide +kernel) rfl) (gw_of 30 (by decide +kernel) rfl) dvX2 (gN_mon (by decide) (by decide)) (by decide +kernel) (by decide +kernel) ⟨trivial, ⟨rf_a (by omega), trivial⟩⟩ ⟨ro_a (by omega), ⟨trivial, trivial⟩⟩ ⟨Nat.le_of_ble_eq_true rfl, Nat.le_of_ble_eq_true rfl⟩ ?_
  refine e_dup dX3_init_66 rfl rfl ?_
  refine e_callC (n' := 29) dX3_init_67 rfl (Or.inr ciX3_36) rfl rfl (c_VS hf (i := 6) (by decide) (by decide +kernel)) ⟨Nat.le_of_ble_eq_true rfl, Nat.le_of_ble_eq_true rfl⟩ ⟨Nat.le_of_ble_eq_true rfl, Nat.le_of_ble_eq_true rfl⟩ (Nat.le_of_ble_eq_true rfl) (gN_mon (by decide) (by decide)) gN_ao ⟨rf_a (by omega), ⟨trivial, ⟨rf_a (by omega), trivial⟩⟩⟩ ⟨ro_a (by omega), ⟨trivial, trivial⟩⟩ rfl rfl ?_
  refine e_aastR (j := 6) (k := 9) (ci := 2) dX3_init_70 rfl rfl (Or.inr (Or.inr ⟨rfl, rfl⟩)) (by decide) rfl (by decide) rfl (by decide) ?_
  refine e_iinc_1 (v := nI 7) dX3_init_71 rfl (Nat.le_of_ble_eq_true rfl) rfl (nI_1 6) ?_
  refine e_goto (tgt := 52) dX3_init_74 (by decide) ?_
  refine e_iload_1 dX3_init_52 rfl ?_
  refine e_bipush (v := nI 8) dX3_init_53 rfl bc_8 ?_
  refine e_nc_ge_f (a := 7) (b := 8) dX3_init_55 rfl ⟨77, by decide⟩ (by decide) (by decide) (by decide) ?_
  refine e_aload_0 dX3_init_58 rfl ?_
  refine e_getR (b := 1) dX3_init_59 rfl lkX3_11 rfl ps_0 (by decide) (by decide) rfl ?_
  refine e_iload_1 dX3_init_62 rfl ?_
  refine e_newO dX3_init_63 rfl (ci := 2) rfl rfl (by decide) (gw_of 55 (by decide +kernel) rfl) (gw_of 63 (by decide +kernel) rfl) (gw_of 30 (by decide +kernel) rfl) dvX2 (gN_mon (by decide) (by decide)) (by decide +kernel) (by decide +kernel) ⟨trivial, ⟨rf_a (by omega), trivial⟩⟩ ⟨ro_a (by omega), ⟨trivial, trivial⟩⟩ ⟨Nat.le_of_ble_eq_true rfl, Nat.le_of_ble_eq_true rfl⟩ ?_
  refine e_dup dX3_init_66 rfl rfl ?_
  refine e_callC (n' := 31) dX3_init_67 rfl (Or.inr ciX3_36) rfl rfl (c_VS hf (i := 7) (by decide) (by decide +kernel)) ⟨Nat.le_of_ble_eq_true rfl, Nat.le_of_ble_eq_true rfl⟩ ⟨Nat.le_of_ble_eq_true rfl, Nat.le_of_ble_eq_true rfl⟩ (Nat.le_of_ble_eq_true rfl) (gN_mon (by decide) (by decide)) gN_ao ⟨rf_a (by omega), ⟨trivial, ⟨rf_a (by omega), trivial⟩⟩⟩ ⟨ro_a (by omega), ⟨trivial, trivial⟩⟩ rfl rfl ?_
  refine e_aastR (j := 7) (k := 9) (ci := 2) dX3_init_70 rfl rfl (Or.inr (Or.inr ⟨rfl, rfl⟩)) (by decide) rfl (by decide) rfl (by decide) ?_
  refine e_iinc_1 (v := nI 8) dX3_init_71 rfl (Nat.le_of_ble_eq_true rfl) rfl (nI_1 7) ?_
  refine e_goto (tgt := 52) dX3_init_74 (by decide) ?_
  refine e_iload_1 dX3_init_52 rfl ?_
  refine e_bipush (v := nI 8) dX3_init_53 rfl bc_8 ?_
  refine e_nc_ge_t (a := 8) (b := 8) (tgt := 77) dX3_init_55 (by decide) (by decide) (by decide) (by decide) ?_
  refine e_iconst (v := nI 0) dX3_init_77 rfl ic_0 ?_
  refine e_istore_1 dX3_init_78 rfl (Nat.le_of_ble_eq_true rfl) rfl ?_
  refine e_iload_1 dX3_init_79 rfl ?_
  refine e_bipush (v := nI 8) dX3_init_80 rfl bc_8 ?_
  refine e_nc_ge_f (a := 0) (b := 8) dX3_init_82 rfl ⟨104, by decide⟩ (by decide) (by decide) (by decide) ?_
  refine e_aload_0 dX3_init_85 rfl ?_
  refine e_getR (b := 2) dX3_init_86 rfl lkX3_17 rfl ps_0 (by decide) (by decide) rfl ?_
  refine e_iload_1 dX3_init_89 rfl ?_
  refine e_newO dX3_init_90 rfl (ci := 1) rfl rfl (by decide) (gw_of 57 (by decide +kernel) rfl) (gw_of 81 (by decide +kernel) rfl) (gw_of 31 (by decide +kernel) rfl) dvX1 (gN_mon (by decide) (by decide)) (by decide +kernel) (by decide +kernel) ⟨trivial, ⟨rf_a (by omega), trivial⟩⟩ ⟨ro_a (by omega), ⟨trivial, trivial⟩⟩ ⟨Nat.le_of_ble_eq_true rfl, Nat.le_of_ble_eq_true rfl⟩ ?_
  refine e_dup dX3_init_93 rfl rfl ?_
  refine e_callC (n' := 34) dX3_init_94 rfl (Or.inr ciX3_37) rfl rfl (c_RU hf (i := 0) (by decide) (by decide +kernel)) ⟨Nat.le_of_ble_eq_true rfl, Nat.le_of_ble_eq_true rfl⟩ ⟨Nat.le_of_ble_eq_true rfl, Nat.le_of_ble_eq_true rfl⟩ (Nat.le_of_ble_eq_true rfl) (gN_mon (by decide) (by decide)) gN_ao ⟨rf_a (by omega), ⟨trivial, ⟨rf_a (by omega), trivial⟩⟩⟩ ⟨ro_a (by omega), ⟨trivial, trivial⟩⟩ rfl rfl ?_
  refine e_aastR (j := 0) (k := 8) (ci := 1) dX3_init_97 rfl rfl (Or.inr (Or.inl ⟨rfl, rfl⟩)) (by decide) rfl (by decide) rfl (by decide) ?_
  refine e_iinc_1 (v := nI 1) dX3_init_98 rfl (Nat.le_of_ble_eq_true rfl) rfl (nI_1 0) ?_
  refine e_goto (tgt := 79) dX3_init_101 (by decide) ?_
  refine e_iload_1 dX3_init_79 rfl ?_
  refine e_bipush (v := nI 8) dX3_init_80 rfl bc_8 ?_
  refine e_nc_ge_f (a := 1) (b := 8) dX3_init_82 rfl ⟨104, by decide⟩ (by decide) (by decide) (by decide) ?_
  refine e_aload_0 dX3_init_85 rfl ?_
  refine e_getR (b := 2) dX3_init_86 rfl lkX3_17 rfl ps_0 (by decide) (by decide) rfl ?_
  refine e_iload_1 dX3_init_89 rfl ?_
  refine e_newO dX3_init_90 rfl (ci := 1) rfl rfl (by decide) (gw_of 57 (by decide +kernel) rfl) (gw_of 81 (by decide +kernel) rfl) (gw_of 31 (by decide +kernel) rfl) dvX1 (gN_mon (by decide) (by decide)) (by decide +kernel) (by decide +kernel) ⟨trivial, ⟨rf_a (by omega), trivial⟩⟩ ⟨ro_a (by omega), ⟨trivial, trivial⟩⟩ ⟨Nat.le_of_ble_eq_true rfl, Nat.le_of_ble_eq_true rfl⟩ ?_
  refine e_dup dX3_init_93 rfl rfl ?_
  refine e_callC (n' := 37) dX3_init_94 rfl (Or.inr ciX3_37) rfl rfl (c_RU hf (i := 1) (by decide) (by decide +kernel)) ⟨Nat.le_of_ble_eq_true rfl, Nat.le_of_ble_eq_true rfl⟩ ⟨Nat.le_of_ble_eq_true rfl, Nat.le_of_ble_eq_true rfl⟩ (Nat.le_of_ble_eq_true rfl) (gN_mon (by decide) (by decide)) gN_ao ⟨rf_a (by omega), ⟨trivial, ⟨rf_a (by omega), trivial⟩⟩⟩ ⟨ro_a (by omega), ⟨trivial, trivial⟩⟩ rfl rfl ?_
  refine e_aastR (j := 1) (k := 8) (ci := 1) dX3_init_97 rfl rfl (Or.inr (Or.inl ⟨rfl, rfl⟩)) (by decide) rfl (by decide) rfl (by decide) ?_
  refine e_iinc_1 (v := nI 2) dX3_init_98 rfl (Nat.le_of_ble_eq_true rfl) rfl (nI_1 1) ?_
  refine e_goto (tgt := 79) dX3_init_101 (by decide) ?_
  refine e_iload_1 dX3_init_79 rfl ?_
  refine e_bipush (v := nI 8) dX3_init_80 rfl bc_8 ?_
  refine e_nc_ge_f (a := 2) (b := 8) dX3_init_82 rfl ⟨104, by decide⟩ (by decide) (by decide) (by decide) ?_
  refine e_aload_0 dX3_init_85 rfl ?_
  refine e_getR (b := 2) dX3_init_86 rfl lkX3_17 rfl ps_0 (by decide) (by decide) rfl ?_
  refine e_iload_1 dX3_init_89 rfl ?_
  refine e_newO dX3_init_90 rfl (ci := 1) rfl rfl (by decide) (gw_of 57 (by decide +kernel) rfl) (gw_of 81 (by decide +kernel) rfl) (gw_of 31 (by decide +kernel) rfl) dvX1 (gN_mon (by decide) (by decide)) (by decide +kernel) (by decide +kernel) ⟨trivial, ⟨rf_a (by omega), trivial⟩⟩ ⟨ro_a (by omega), ⟨trivial, trivial⟩⟩ ⟨Nat.le_of_ble_eq_true rfl, Nat.le_of_ble_eq_true rfl⟩ ?_
  refine e_dup dX3_init_93 rfl rfl ?_
  refine e_callC (n' := 40) dX3_init_94 rfl (Or.inr ciX3_37) rfl rfl (c_RU hf (i := 2) (by decide) (by decide +kernel)) ⟨Nat.le_of_ble_eq_true rfl, Nat.le_of_ble_eq_true rfl⟩ ⟨Nat.le_of_ble_eq_true rfl, Nat.le_of_ble_eq_true rfl⟩ (Nat.le_of_ble_eq_true rfl) (gN_mon (by decide) (by decide)) gN_ao ⟨rf_a (by omega), ⟨trivial, ⟨rf_a (by omega), trivial⟩⟩⟩ ⟨ro_a (by omega), ⟨trivial, trivial⟩⟩ rfl rfl ?_
  refine e_aastR (j := 2) (k := 8) (ci := 1) dX3_init_97 rfl rfl (Or.inr (Or.inl ⟨rfl, rfl⟩)) (by decide) rfl (by decide) rfl (by decide) ?_
  refine e_iinc_1 (v := nI 3) dX3_init_98 rfl (Nat.le_of_ble_eq_true rfl) rfl (nI_1 2) ?_
  refine e_goto (tgt := 79) dX3_init_101 (by decide) ?_
  refine e_iload_1 dX3_init_79 rfl ?_
  refine e_bipush (v := nI 8) dX3_init_80 rfl bc_8 ?_
  refine e_nc_ge_f (a := 3) (b := 8) dX3_init_82 rfl ⟨104, by decide⟩ (by decide) (by decide) (by decide) ?_
  refine e_aload_0 dX3_init_85 rfl ?_
  refine e_getR (b := 2) dX3_init_86 rfl lkX3_17 rfl ps_0 (by decide) (by decide) rfl ?_
  refine e_iload_1 dX3_init_89 rfl ?_
  refine e_newO dX3_init_90 rfl (ci := 1) rfl rfl (by decide) (gw_of 57 (by decide +kernel) rfl) (gw_of 81 (by decide +kernel) rfl) (gw_of 31 (by decide +kernel) rfl) dvX1 (gN_mon (by decide) (by decide)) (by decide +kernel) (by decide +kernel) ⟨trivial, ⟨rf_a (by omega), trivial⟩⟩ ⟨ro_a (by omega), ⟨trivial, trivial⟩⟩ ⟨Nat.le_of_ble_eq_true rfl, Nat.le_of_ble_eq_true rfl⟩ ?_
  refine e_dup dX3_init_93 rfl rfl ?_
  refine e_callC (n' := 43) dX3_init_94 rfl (Or.inr ciX3_37) rfl rfl (c_RU hf (i := 3) (by decide) (by decide +kernel)) ⟨Nat.le_of_ble_eq_true rfl, Nat.le_of_ble_eq_true rfl⟩ ⟨Nat.le_of_ble_eq_true rfl, Nat.le_of_ble_eq_true rfl⟩ (Nat.le_of_ble_eq_true rfl) (gN_mon (by decide) (by decide)) gN_ao ⟨rf_a (by omega), ⟨trivial, ⟨rf_a (by omega), trivial⟩⟩⟩ ⟨ro_a (by omega), ⟨trivial, trivial⟩⟩ rfl rfl ?_
  refine e_aastR (j := 3) (k := 8) (ci := 1) dX3_init_97 rfl rfl (Or.inr (Or.inl ⟨rfl, rfl⟩)) (by decide) rfl (by decide) rfl (by decide) ?_
  refine e_iinc_1 (v := nI 4) dX3_init_98 rfl (Nat.le_of_ble_eq_true rfl) rfl (nI_1 3) ?_
  refine e_goto (tgt := 79) dX3_init_101 (by decide) ?_
  refine e_iload_1 dX3_init_79 rfl ?_
  refine e_bipush (v := nI 8) dX3_init_80 rfl bc_8 ?_
  refine e_nc_ge_f (a := 4) (b := 8) dX3_init_82 rfl ⟨104, by decide⟩ (by decide) (by decide) (by decide) ?_
  refine e_aload_0 dX3_init_85 rfl ?_
  refine e_getR (b := 2) dX3_init_86 rfl lkX3_17 rfl ps_0 (by decide) (by decide) rfl ?_
  refine e_iload_1 dX3_init_89 rfl ?_
  refine e_newO dX3_init_90 rfl (ci := 1) rfl rfl (by decide) (gw_of 57 (by decide +kernel) rfl) (gw_of 81 (by decide +kernel) rfl) (gw_of 31 (by decide +kernel) rfl) dvX1 (gN_mon (by decide) (by decide)) (by decide +kernel) (by decide +kernel) ⟨trivial, ⟨rf_a (by omega), trivial⟩⟩ ⟨ro_a (by omega), ⟨trivial, trivial⟩⟩ ⟨Nat.le_of_ble_eq_true rfl, Nat.le_of_ble_eq_true rfl⟩ ?_
  refine e_dup dX3_init_93 rfl rfl ?_
  refine e_callC (n' := 46) dX3_init_94 rfl (Or.inr ciX3_37) rfl rfl (c_RU hf (i := 4) (by decide) (by decide +kernel)) ⟨Nat.le_of_ble_eq_true rfl, Nat.le_of_ble_eq_true rfl⟩ ⟨Nat.le_of_ble_eq_true rfl, Nat.le_of_ble_eq_true rfl⟩ (Nat.le_of_ble_eq_true rfl) (gN_mon (by decide) (by decide)) gN_ao ⟨rf_a (by omega), ⟨trivial, ⟨rf_a (by omega), trivial⟩⟩⟩ ⟨ro_a (by omega), ⟨trivial, trivial⟩⟩ rfl rfl ?_
  refine e_aastR (j := 4) (k := 8) (ci := 1) dX3_init_97 rfl rfl (Or.inr (Or.inl ⟨rfl, rfl⟩)) (by decide) rfl (by decide) rfl (by decide) ?_
  refine e_iinc_1 (v := nI 5) dX3_init_98 rfl (Nat.le_of_ble_eq_true rfl) rfl (nI_1 4) ?_
  refine e_goto (tgt := 79) dX3_init_101 (by decide) ?_
  refine e_iload_1 dX3_init_79 rfl ?_
  refine e_bipush (v := nI 8) dX3_init_80 rfl bc_8 ?_
  refine e_nc_ge_f (a := 5) (b := 8) dX3_init_82 rfl ⟨104, by decide⟩ (by decide) (by decide) (by decide) ?_
  refine e_aload_0 dX3_init_85 rfl ?_
  refine e_getR (b := 2) dX3_init_86 rfl lkX3_17 rfl ps_0 (by decide) (by decide) rfl ?_
  refine e_iload_1 dX3_init_89 rfl ?_
  refine e_newO dX3_init_90 rfl (ci := 1) rfl rfl (by decide) (gw_of 57 (by decide +kernel) rfl) (gw_of 81 (by decide +kernel) rfl) (gw_of 31 (by decide +kernel) rfl) dvX1 (gN_mon (by decide) (by decide)) (by decide +kernel) (by decide +kernel) ⟨trivial, ⟨rf_a (by omega), trivial⟩⟩ ⟨ro_a (by omega), ⟨trivial, trivial⟩⟩ ⟨Nat.le_of_ble_eq_true rfl, Nat.le_of_ble_eq_true rfl⟩ ?_
  refine e_dup dX3_init_93 rfl rfl ?_
  refine e_callC (n' := 49) dX3_init_94 rfl (Or.inr ciX3_37) rfl rfl (c_RU hf (i := 5) (by decide) (by decide +kernel)) ⟨Nat.le_of_ble_eq_true rfl, Nat.le_of_ble_eq_true rfl⟩ ⟨Nat.le_of_ble_eq_true rfl, Nat.le_of_ble_eq_true rfl⟩ (Nat.le_of_ble_eq_true rfl) (gN_mon (by decide) (by decide)) gN_ao ⟨rf_a (by omega), ⟨trivial, ⟨rf_a (by omega), trivial⟩⟩⟩ ⟨ro_a (by omega), ⟨trivial, trivial⟩⟩ rfl rfl ?_
  refine e_aastR (j := 5) (k := 8) (ci := 1) dX3_init_97 rfl rfl (Or.inr (Or.inl ⟨rfl, rfl⟩)) (by decide) rfl (by decide) rfl (by decide) ?_
  refine e_iinc_1 (v := nI 6) dX3_init_98 rfl (Nat.le_of_ble_eq_true rfl) rfl (nI_1 5) ?_
  refine e_goto (tgt := 79) dX3_init_101 (by decide) ?_
  refine e_iload_1 dX3_init_79 rfl ?_
  refine e_bipush (v := nI 8) dX3_init_80 rfl bc_8 ?_
  refine e_nc_ge_f (a := 6) (b := 8) dX3_init_82 rfl ⟨104, by decide⟩ (by decide) (by decide) (by decide) ?_
  refine e_aload_0 dX3_init_85 rfl ?_
  refine e_getR (b := 2) dX3_init_86 rfl lkX3_17 rfl ps_0 (by decide) (by decide) rfl ?_
  refine e_iload_1 dX3_init_89 rfl ?_
  refine e_newO dX3_init_90 rfl (ci := 1) rfl rfl (by decide) (gw_of 57 (by decide +kernel) rfl) (gw_of 81 (by decide +kernel) rfl) (gw_of 31 (by decide +kernel) rfl) dvX1 (gN_mon (by decide) (by decide)) (by decide +kernel) (by decide +kernel) ⟨trivial, ⟨rf_a (by omega), trivial⟩⟩ ⟨ro_a (by omega), ⟨trivial, trivial⟩⟩ ⟨Nat.le_of_ble_eq_true rfl, Nat.le_of_ble_eq_true rfl⟩ ?_
  refine e_dup dX3_init_93 rfl rfl ?_
  refine e_callC (n' := 52) dX3_init_94 rfl (Or.inr ciX3_37) rfl rfl (c_RU hf (i := 6) (by decide) (by decide +kernel)) ⟨Nat.le_of_ble_eq_true rfl, Nat.le_of_ble_eq_true rfl⟩ ⟨Nat.le_of_ble_eq_true rfl, Nat.le_of_ble_eq_true rfl⟩ (Nat.le_of_ble_eq_true rfl) (gN_mon (by decide) (by decide)) gN_ao ⟨rf_a (by omega), ⟨trivial, ⟨rf_a (by omega), trivial⟩⟩⟩ ⟨ro_a (by omega), ⟨trivial, trivial⟩⟩ rfl rfl ?_
  refine e_aastR (j := 6) (k := 8) (ci := 1) dX3_init_97 rfl rfl (Or.inr (Or.inl ⟨rfl, rfl⟩)) (by decide) rfl (by decide) rfl (by decide) ?_
  refine e_iinc_1 (v := nI 7) dX3_init_98 rfl (Nat.le_of_ble_eq_true rfl) rfl (nI_1 6) ?_
  refine e_goto (tgt := 79) dX3_init_101 (by decide) ?_
  refine e_iload_1 dX3_init_79 rfl ?_
  refine e_bipush (v := nI 8) dX3_init_80 rfl bc_8 ?_
  refine e_nc_ge_f (a := 7) (b := 8) dX3_init_82 rfl ⟨104, by decide⟩ (by decide) (by decide) (by decide) ?_
  refine e_aload_0 dX3_init_85 rfl ?_
  refine e_getR (b := 2) dX3_init_86 rfl lkX3_17 rfl ps_0 (by decide) (by decide) rfl ?_
  refine e_iload_1 dX3_init_89 rfl ?_
  refine e_newO dX3_init_90 rfl (ci := 1) rfl rfl (by decide) (gw_of 57 (by decide +kernel) rfl) (gw_of 81 (by decide +kernel) rfl) (gw_of 31 (by decide +kernel) rfl) dvX1 (gN_mon (by decide) (by decide)) (by decide +kernel) (by decide +kernel) ⟨trivial, ⟨rf_a (by omega), trivial⟩⟩ ⟨ro_a (by omega), ⟨trivial, trivial⟩⟩ ⟨Nat.le_of_ble_eq_true rfl, Nat.le_of_ble_eq_true rfl⟩ ?_
  refine e_dup dX3_init_93 rfl rfl ?_
  refine e_callC (n' := 55) dX3_init_94 rfl (Or.inr ciX3_37) rfl rfl (c_RU hf (i := 7) (by decide) (by decide +kernel)) ⟨Nat.le_of_ble_eq_true rfl, Nat.le_of_ble_eq_true rfl⟩ ⟨Nat.le_of_ble_eq_true rfl, Nat.le_of_ble_eq_true rfl⟩ (Nat.le_of_ble_eq_true rfl) (gN_mon (by decide) (by decide)) gN_ao ⟨rf_a (by omega), ⟨trivial, ⟨rf_a (by omega), trivial⟩⟩⟩ ⟨ro_a (by omega), ⟨trivial, trivial⟩⟩ rfl rfl ?_
  refine e_aastR (j := 7) (k := 8) (ci := 1) dX3_init_97 rfl rfl (Or.inr (Or.inl ⟨rfl, rfl⟩)) (by decide) rfl (by decide) rfl (by decide) ?_
  refine e_iinc_1 (v := nI 8) dX3_init_98 rfl (Nat.le_of_ble_eq_true rfl) rfl (nI_1 7) ?_
  refine e_goto (tgt := 79) dX3_init_101 (by decide) ?_
  refine e_iload_1 dX3_init_79 rfl ?_
  refine e_bipush (v := nI 8) dX3_init_80 rfl bc_8 ?_
  refine e_nc_ge_t (a := 8) (b := 8) (tgt := 104) dX3_init_82 (by decide) (by decide) (by decide) (by decide) ?_
  refine e_iconst (v := nI 0) dX3_init_104 rfl ic_0 ?_
  refine e_istore_1 dX3_init_105 rfl (Nat.le_of_ble_eq_true rfl) rfl ?_
  refine e_iload_1 dX3_init_106 rfl ?_
  refine e_iconst (v := nI 3) dX3_init_107 rfl ic_3 ?_
  refine e_nc_ge_f (a := 0) (b := 3) dX3_init_108 rfl ⟨130, by decide⟩ (by decide) (by decide) (by decide) ?_
  refine e_aload_0 dX3_init_111 rfl ?_
  refine e_getR (b := 3) dX3_init_112 rfl lkX3_23 rfl ps_0 (by decide) (by decide) rfl ?_
  refine e_iload_1 dX3_init_115 rfl ?_
  refine e_newO dX3_init_116 rfl (ci := 0) rfl rfl (by decide) (gw_of 59 (by decide +kernel) rfl) (gw_of 127 (by decide +kernel) rfl) (gw_of 32 (by decide +kernel) rfl) dvX0 (gN_mon (by decide) (by decide)) (by decide +kernel) (by decide +kernel) ⟨trivial, ⟨rf_a (by omega), trivial⟩⟩ ⟨ro_a (by omega), ⟨trivial, trivial⟩⟩ ⟨Nat.le_of_ble_eq_true rfl, Nat.le_of_ble_eq_true rfl⟩ ?_
  refine e_dup dX3_init_119 rfl rfl ?_
  refine e_callC (n' := 58) dX3_init_120 rfl (Or.inr ciX3_38) rfl rfl (c_GR hf (i := 0) (by decide) (by decide +kernel)) ⟨Nat.le_of_ble_eq_true rfl, Nat.le_of_ble_eq_true rfl⟩ ⟨Nat.le_of_ble_eq_true rfl, Nat.le_of_ble_eq_true rfl⟩ (Nat.le_of_ble_eq_true rfl) (gN_mon (by decide) (by decide)) gN_ao ⟨rf_a (by omega), ⟨trivial, ⟨rf_a (by omega), trivial⟩⟩⟩ ⟨ro_a (by omega), ⟨trivial, trivial⟩⟩ rfl rfl ?_
  refine e_aastR (j := 0) (k := 7) (ci := 0) dX3_init_123 rfl rfl (Or.inl ⟨rfl, rfl⟩) (by decide) rfl (by decide) rfl (by decide) ?_
  refine e_iinc_1 (v := nI 1) dX3_init_124 rfl (Nat.le_of_ble_eq_true rfl) rfl (nI_1 0) ?_
  refine e_goto (tgt := 106) dX3_init_127 (by decide) ?_
  refine e_iload_1 dX3_init_106 rfl ?_
  refine e_iconst (v := nI 3) dX3_init_107 rfl ic_3 ?_
  refine e_nc_ge_f (a := 1) (b := 3) dX3_init_108 rfl ⟨130, by decide⟩ (by decide) (by decide) (by decide) ?_
  refine e_aload_0 dX3_init_111 rfl ?_
  refine e_getR (b := 3) dX3_init_112 rfl lkX3_23 rfl ps_0 (by decide) (by decide) rfl ?_
  refine e_iload_1 dX3_init_115 rfl ?_
  refine e_newO dX3_init_116 rfl (ci := 0) rfl rfl (by decide) (gw_of 59 (by decide +kernel) rfl) (gw_of 127 (by decide +kernel) rfl) (gw_of 32 (by decide +kernel) rfl) dvX0 (gN_mon (by decide) (by decide)) (by decide +kernel) (by decide +kernel) ⟨trivial, ⟨rf_a (by omega), trivial⟩⟩ ⟨ro_a (by omega), ⟨trivial, trivial⟩⟩ ⟨Nat.le_of_ble_eq_true rfl, Nat.le_of_ble_eq_true rfl⟩ ?_
  refine e_dup dX3_init_119 rfl rfl ?_
  refine e_callC (n' := 61) dX3_init_120 rfl (Or.inr ciX3_38) rfl rfl (c_GR hf (i := 1) (by decide) (by decide +kernel)) ⟨Nat.le_of_ble_eq_true rfl, Nat.le_of_ble_eq_true rfl⟩ ⟨Nat.le_of_ble_eq_true rfl, Nat.le_of_ble_eq_true rfl⟩ (Nat.le_of_ble_eq_true rfl) (gN_mon (by decide) (by decide)) gN_ao ⟨rf_a (by omega), ⟨trivial, ⟨rf_a (by omega), trivial⟩⟩⟩ ⟨ro_a (by omega), ⟨trivial, trivial⟩⟩ rfl rfl ?_
  refine e_aastR (j := 1) (k := 7) (ci := 0) dX3_init_123 rfl rfl (Or.inl ⟨rfl, rfl⟩) (by decide) rfl (by decide) rfl (by decide) ?_
  refine e_iinc_1 (v := nI 2) dX3_init_124 rfl (Nat.le_of_ble_eq_true rfl) rfl (nI_1 1) ?_
  refine e_goto (tgt := 106) dX3_init_127 (by decide) ?_
  refine e_iload_1 dX3_init_106 rfl ?_
  refine e_iconst (v := nI 3) dX3_init_107 rfl ic_3 ?_
  refine e_nc_ge_f (a := 2) (b := 3) dX3_init_108 rfl ⟨130, by decide⟩ (by decide) (by decide) (by decide) ?_
  refine e_aload_0 dX3_init_111 rfl ?_
  refine e_getR (b := 3) dX3_init_112 rfl lkX3_23 rfl ps_0 (by decide) (by decide) rfl ?_
  refine e_iload_1 dX3_init_115 rfl ?_
  refine e_newO dX3_init_116 rfl (ci := 0) rfl rfl (by decide) (gw_of 59 (by decide +kernel) rfl) (gw_of 127 (by decide +kernel) rfl) (gw_of 32 (by decide +kernel) rfl) dvX0 (gN_mon (by decide) (by decide)) (by decide +kernel) (by decide +kernel) ⟨trivial, ⟨rf_a (by omega), trivial⟩⟩ ⟨ro_a (by omega), ⟨trivial, trivial⟩⟩ ⟨Nat.le_of_ble_eq_true rfl, Nat.le_of_ble_eq_true rfl⟩ ?_
  refine e_dup dX3_init_119 rfl rfl ?_
  refine e_callC (n' := 64) dX3_init_120 rfl (Or.inr ciX3_38) rfl rfl (c_GR hf (i := 2) (by decide) (by decide +kernel)) ⟨Nat.le_of_ble_eq_true rfl, Nat.le_of_ble_eq_true rfl⟩ ⟨Nat.le_of_ble_eq_true rfl, Nat.le_of_ble_eq_true rfl⟩ (Nat.le_of_ble_eq_true rfl) (gN_mon (by decide) (by decide)) gN_ao ⟨rf_a (by omega), ⟨trivial, ⟨rf_a (by omega), trivial⟩⟩⟩ ⟨ro_a (by omega), ⟨trivial, trivial⟩⟩ rfl rfl ?_
  refine e_aastR (j := 2) (k := 7) (ci := 0) dX3_init_123 rfl rfl (Or.inl ⟨rfl, rfl⟩) (by decide) rfl (by decide) rfl (by decide) ?_
  refine e_iinc_1 (v := nI 3) dX3_init_124 rfl (Nat.le_of_ble_eq_true rfl) rfl (nI_1 2) ?_
  refine e_goto (tgt := 106) dX3_init_127 (by decide) ?_
  refine e_iload_1 dX3_init_106 rfl ?_
  refine e_iconst (v := nI 3) dX3_init_107 rfl ic_3 ?_
  refine e_nc_ge_t (a := 3) (b := 3) (tgt := 130) dX3_init_108 (by decide) (by decide) (by decide) (by decide) ?_
  exact e_vretN dX3_init_130 rfl (Nat.le_of_ble_eq_true rfl) (Nat.le_of_ble_eq_true rfl) rfl
